theorem kd_method_3_code_0 : decode method_3_code 0 = .ok (.aload_n 1, 1) := by decide +kernel
theorem kd_method_3_code_1 : decode method_3_code 1 = .ok (.iconst 0, 1) := by decide +kernel
theorem kd_method_3_code_2 : decode method_3_code 2 = .ok (.aload_n 0, 1) := by decide +kernel
theorem kd_method_3_code_3 : decode method_3_code 3 = .ok (.invokevirtual 7, 3) := by decide +kernel
theorem kd_method_3_code_6 : decode method_3_code 6 = .ok (.i2l, 1) := by decide +kernel
theorem kd_method_3_code_7 : decode method_3_code 7 = .ok (.lastore, 1) := by decide +kernel
theorem kd_method_3_code_8 : decode method_3_code 8 = .ok (.goto 6, 3) := by decide +kernel
theorem kd_method_3_code_11 : decode method_3_code 11 = .ok (.astore_n 2, 1) := by decide +kernel
theorem kd_method_3_code_12 : decode method_3_code 12 = .ok (.iconst 1, 1) := by decide +kernel
theorem kd_method_3_code_13 : decode method_3_code 13 = .ok (.ireturn, 1) := by decide +kernel
theorem kd_method_3_code_14 : decode method_3_code 14 = .ok (.iconst 0, 1) := by decide +kernel
theorem kd_method_3_code_15 : decode method_3_code 15 = .ok (.ireturn, 1) := by decide +kernel
theorem kd_method_4_code_0 : decode method_4_code 0 = .ok (.aload 6, 2) := by decide +kernel
theorem kd_method_4_code_2 : decode method_4_code 2 = .ok (.iconst 0, 1) := by decide +kernel
theorem kd_method_4_code_3 : decode method_4_code 3 = .ok (.aload_n 0, 1) := by decide +kernel
theorem kd_method_4_code_4 : decode method_4_code 4 = .ok (.iload_n 1, 1) := by decide +kernel
theorem kd_method_4_code_5 : decode method_4_code 5 = .ok (.iload_n 2, 1) := by decide +kernel
theorem kd_method_4_code_6 : decode method_4_code 6 = .ok (.iload_n 3, 1) := by decide +kernel
theorem kd_method_4_code_7 : decode method_4_code 7 = .ok (.iload 4, 2) := by decide +kernel
theorem kd_method_4_code_9 : decode method_4_code 9 = .ok (.iload 5, 2) := by decide +kernel
theorem kd_method_4_code_11 : decode method_4_code 11 = .ok (.invokevirtual 15, 3) := by decide +kernel
theorem kd_method_4_code_14 : decode method_4_code 14 = .ok (.i2l, 1) := by decide +kernel
theorem kd_method_4_code_15 : decode method_4_code 15 = .ok (.lastore, 1) := by decide +kernel
theorem kd_method_4_code_16 : decode method_4_code 16 = .ok (.goto 11, 3) := by decide +kernel
theorem kd_method_4_code_19 : decode method_4_code 19 = .ok (.astore 7, 2) := by decide +kernel
theorem kd_method_4_code_21 : decode method_4_code 21 = .ok (.iconst 1, 1) := by decide +kernel
theorem kd_method_4_code_22 : decode method_4_code 22 = .ok (.ireturn, 1) := by decide +kernel
theorem kd_method_4_code_23 : decode method_4_code 23 = .ok (.astore 7, 2) := by decide +kernel
theorem kd_method_4_code_25 : decode method_4_code 25 = .ok (.iconst 2, 1) := by decide +kernel
theorem kd_method_4_code_26 : decode method_4_code 26 = .ok (.ireturn, 1) := by decide +kernel
theorem kd_method_4_code_27 : decode method_4_code 27 = .ok (.iconst 0, 1) := by decide +kernel
theorem kd_method_4_code_28 : decode method_4_code 28 = .ok (.ireturn, 1) := by decide +kernel
theorem kd_method_5_code_0 : decode method_5_code 0 = .ok (.aload 6, 2) := by decide +kernel
theorem kd_method_5_code_2 : decode method_5_code 2 = .ok (.iconst 0, 1) := by decide +kernel
theorem kd_method_5_code_3 : decode method_5_code 3 = .ok (.aload_n 0, 1) := by decide +kernel
theorem kd_method_5_code_4 : decode method_5_code 4 = .ok (.iload_n 1, 1) := by decide +kernel
theorem kd_method_5_code_5 : decode method_5_code 5 = .ok (.iload_n 2, 1) := by decide +kernel
theorem kd_method_5_code_6 : decode method_5_code 6 = .ok (.iload_n 3, 1) := by decide +kernel
theorem kd_method_5_code_7 : decode method_5_code 7 = .ok (.iload 4, 2) := by decide +kernel
theorem kd_method_5_code_9 : decode method_5_code 9 = .ok (.iload 5, 2) := by decide +kernel
theorem kd_method_5_code_11 : decode method_5_code 11 = .ok (.invokevirtual 21, 3) := by decide +kernel
theorem kd_method_5_code_14 : decode method_5_code 14 = .ok (.i2l, 1) := by decide +kernel
theorem kd_method_5_code_15 : decode method_5_code 15 = .ok (.lastore, 1) := by decide +kernel
theorem kd_method_5_code_16 : decode method_5_code 16 = .ok (.goto 7, 3) := by decide +kernel
theorem kd_method_5_code_19 : decode method_5_code 19 = .ok (.astore 7, 2) := by decide +kernel
theorem kd_method_5_code_21 : decode method_5_code 21 = .ok (.iconst 1, 1) := by decide +kernel
theorem kd_method_5_code_22 : decode method_5_code 22 = .ok (.ireturn, 1) := by decide +kernel
theorem kd_method_5_code_23 : decode method_5_code 23 = .ok (.iconst 0, 1) := by decide +kernel
theorem kd_method_5_code_24 : decode method_5_code 24 = .ok (.ireturn, 1) := by decide +kernel
theorem kd_method_6_code_0 : decode method_6_code 0 = .ok (.aload_n 1, 1) := by decide +kernel
theorem kd_method_6_code_1 : decode method_6_code 1 = .ok (.iconst 0, 1) := by decide +kernel
theorem kd_method_6_code_2 : decode method_6_code 2 = .ok (.aload_n 0, 1) := by decide +kernel
theorem kd_method_6_code_3 : decode method_6_code 3 = .ok (.invokevirtual 24, 3) := by decide +kernel
theorem kd_method_6_code_6 : decode method_6_code 6 = .ok (.i2l, 1) := by decide +kernel
theorem kd_method_6_code_7 : decode method_6_code 7 = .ok (.lastore, 1) := by decide +kernel
theorem kd_method_6_code_8 : decode method_6_code 8 = .ok (.goto 9, 3) := by decide +kernel
theorem kd_method_6_code_11 : decode method_6_code 11 = .ok (.astore_n 2, 1) := by decide +kernel
theorem kd_method_6_code_12 : decode method_6_code 12 = .ok (.iconst 1, 1) := by decide +kernel
theorem kd_method_6_code_13 : decode method_6_code 13 = .ok (.ireturn, 1) := by decide +kernel
theorem kd_method_6_code_14 : decode method_6_code 14 = .ok (.astore_n 2, 1) := by decide +kernel
theorem kd_method_6_code_15 : decode method_6_code 15 = .ok (.iconst 2, 1) := by decide +kernel
theorem kd_method_6_code_16 : decode method_6_code 16 = .ok (.ireturn, 1) := by decide +kernel
theorem kd_method_6_code_17 : decode method_6_code 17 = .ok (.iconst 0, 1) := by decide +kernel
theorem kd_method_6_code_18 : decode method_6_code 18 = .ok (.ireturn, 1) := by decide +kernel
theorem kd_method_7_code_0 : decode method_7_code 0 = .ok (.aload_n 3, 1) := by decide +kernel
theorem kd_method_7_code_1 : decode method_7_code 1 = .ok (.iconst 0, 1) := by decide +kernel
theorem kd_method_7_code_2 : decode method_7_code 2 = .ok (.aload_n 0, 1) := by decide +kernel
theorem kd_method_7_code_3 : decode method_7_code 3 = .ok (.iload_n 1, 1) := by decide +kernel
theorem kd_method_7_code_4 : decode method_7_code 4 = .ok (.iload_n 2, 1) := by decide +kernel
theorem kd_method_7_code_5 : decode method_7_code 5 = .ok (.invokevirtual 29, 3) := by decide +kernel
theorem kd_method_7_code_8 : decode method_7_code 8 = .ok (.lastore, 1) := by decide +kernel
theorem kd_method_7_code_9 : decode method_7_code 9 = .ok (.goto 11, 3) := by decide +kernel
theorem kd_method_7_code_12 : decode method_7_code 12 = .ok (.astore 4, 2) := by decide +kernel
theorem kd_method_7_code_14 : decode method_7_code 14 = .ok (.iconst 1, 1) := by decide +kernel
theorem kd_method_7_code_15 : decode method_7_code 15 = .ok (.ireturn, 1) := by decide +kernel
theorem kd_method_7_code_16 : decode method_7_code 16 = .ok (.astore 4, 2) := by decide +kernel
theorem kd_method_7_code_18 : decode method_7_code 18 = .ok (.iconst 2, 1) := by decide +kernel
theorem kd_method_7_code_19 : decode method_7_code 19 = .ok (.ireturn, 1) := by decide +kernel
theorem kd_method_7_code_20 : decode method_7_code 20 = .ok (.iconst 0, 1) := by decide +kernel
theorem kd_method_7_code_21 : decode method_7_code 21 = .ok (.ireturn, 1) := by decide +kernel
theorem kd_method_8_code_0 : decode method_8_code 0 = .ok (.aload_n 3, 1) := by decide +kernel
theorem kd_method_8_code_1 : decode method_8_code 1 = .ok (.iconst 0, 1) := by decide +kernel
theorem kd_method_8_code_2 : decode method_8_code 2 = .ok (.aload_n 0, 1) := by decide +kernel
theorem kd_method_8_code_3 : decode method_8_code 3 = .ok (.iload_n 1, 1) := by decide +kernel
theorem kd_method_8_code_4 : decode method_8_code 4 = .ok (.iload_n 2, 1) := by decide +kernel
theorem kd_method_8_code_5 : decode method_8_code 5 = .ok (.invokevirtual 35, 3) := by decide +kernel
theorem kd_method_8_code_8 : decode method_8_code 8 = .ok (.lastore, 1) := by decide +kernel
theorem kd_method_8_code_9 : decode method_8_code 9 = .ok (.goto 11, 3) := by decide +kernel
theorem kd_method_8_code_12 : decode method_8_code 12 = .ok (.astore 4, 2) := by decide +kernel
theorem kd_method_8_code_14 : decode method_8_code 14 = .ok (.iconst 1, 1) := by decide +kernel
theorem kd_method_8_code_15 : decode method_8_code 15 = .ok (.ireturn, 1) := by decide +kernel
theorem kd_method_8_code_16 : decode method_8_code 16 = .ok (.astore 4, 2) := by decide +kernel
theorem kd_method_8_code_18 : decode method_8_code 18 = .ok (.iconst 2, 1) := by decide +kernel
theorem kd_method_8_code_19 : decode method_8_code 19 = .ok (.ireturn, 1) := by decide +kernel
theorem kd_method_8_code_20 : decode method_8_code 20 = .ok (.iconst 0, 1) := by decide +kernel
theorem kd_method_8_code_21 : decode method_8_code 21 = .ok (.ireturn, 1) := by decide +kernel
theorem kd_method_9_code_0 : decode method_9_code 0 = .ok (.aload 4, 2) := by decide +kernel
theorem kd_method_9_code_2 : decode method_9_code 2 = .ok (.iconst 0, 1) := by decide +kernel
theorem kd_method_9_code_3 : decode method_9_code 3 = .ok (.aload_n 0, 1) := by decide +kernel
theorem kd_method_9_code_4 : decode method_9_code 4 = .ok (.iload_n 1, 1) := by decide +kernel
theorem kd_method_9_code_5 : decode method_9_code 5 = .ok (.iload_n 2, 1) := by decide +kernel
theorem kd_method_9_code_6 : decode method_9_code 6 = .ok (.iload_n 3, 1) := by decide +kernel
theorem kd_method_9_code_7 : decode method_9_code 7 = .ok (.invokevirtual 40, 3) := by decide +kernel
theorem kd_method_9_code_10 : decode method_9_code 10 = .ok (.i2l, 1) := by decide +kernel
theorem kd_method_9_code_11 : decode method_9_code 11 = .ok (.lastore, 1) := by decide +kernel
theorem kd_method_9_code_12 : decode method_9_code 12 = .ok (.goto 7, 3) := by decide +kernel
theorem kd_method_9_code_15 : decode method_9_code 15 = .ok (.astore 5, 2) := by decide +kernel
theorem kd_method_9_code_17 : decode method_9_code 17 = .ok (.iconst 1, 1) := by decide +kernel
theorem kd_method_9_code_18 : decode method_9_code 18 = .ok (.ireturn, 1) := by decide +kernel
theorem kd_method_9_code_19 : decode method_9_code 19 = .ok (.iconst 0, 1) := by decide +kernel
theorem kd_method_9_code_20 : decode method_9_code 20 = .ok (.ireturn, 1) := by decide +kernel
theorem kd_method_10_code_0 : decode method_10_code 0 = .ok (.aload 5, 2) := by decide +kernel
theorem kd_method_10_code_2 : decode method_10_code 2 = .ok (.iconst 0, 1) := by decide +kernel
theorem kd_method_10_code_3 : decode method_10_code 3 = .ok (.aload_n 0, 1) := by decide +kernel
theorem kd_method_10_code_4 : decode method_10_code 4 = .ok (.iload_n 1, 1) := by decide +kernel
theorem kd_method_10_code_5 : decode method_10_code 5 = .ok (.iload_n 2, 1) := by decide +kernel
theorem kd_method_10_code_6 : decode method_10_code 6 = .ok (.iload_n 3, 1) := by decide +kernel
theorem kd_method_10_code_7 : decode method_10_code 7 = .ok (.iload 4, 2) := by decide +kernel
theorem kd_method_10_code_9 : decode method_10_code 9 = .ok (.invokevirtual 44, 3) := by decide +kernel
theorem kd_method_10_code_12 : decode method_10_code 12 = .ok (.i2l, 1) := by decide +kernel
theorem kd_method_10_code_13 : decode method_10_code 13 = .ok (.lastore, 1) := by decide +kernel
theorem kd_method_10_code_14 : decode method_10_code 14 = .ok (.goto 7, 3) := by decide +kernel
theorem kd_method_10_code_17 : decode method_10_code 17 = .ok (.astore 6, 2) := by decide +kernel
theorem kd_method_10_code_19 : decode method_10_code 19 = .ok (.iconst 1, 1) := by decide +kernel
theorem kd_method_10_code_20 : decode method_10_code 20 = .ok (.ireturn, 1) := by decide +kernel
theorem kd_method_10_code_21 : decode method_10_code 21 = .ok (.iconst 0, 1) := by decide +kernel
theorem kd_method_10_code_22 : decode method_10_code 22 = .ok (.ireturn, 1) := by decide +kernel
theorem kd_method_11_code_0 : decode method_11_code 0 = .ok (.aload_n 2, 1) := by decide +kernel
theorem kd_method_11_code_1 : decode method_11_code 1 = .ok (.iconst 0, 1) := by decide +kernel
theorem kd_method_11_code_2 : decode method_11_code 2 = .ok (.aload_n 0, 1) := by decide +kernel
theorem kd_method_11_code_3 : decode method_11_code 3 = .ok (.iload_n 1, 1) := by decide +kernel
theorem kd_method_11_code_4 : decode method_11_code 4 = .ok (.invokevirtual 48, 3) := by decide +kernel
theorem kd_method_11_code_7 : decode method_11_code 7 = .ok (.i2l, 1) := by decide +kernel
theorem kd_method_11_code_8 : decode method_11_code 8 = .ok (.lastore, 1) := by decide +kernel
theorem kd_method_11_code_9 : decode method_11_code 9 = .ok (.goto 6, 3) := by decide +kernel
theorem kd_method_11_code_12 : decode method_11_code 12 = .ok (.astore_n 3, 1) := by decide +kernel
theorem kd_method_11_code_13 : decode method_11_code 13 = .ok (.iconst 1, 1) := by decide +kernel
theorem kd_method_11_code_14 : decode method_11_code 14 = .ok (.ireturn, 1) := by decide +kernel
theorem kd_method_11_code_15 : decode method_11_code 15 = .ok (.iconst 0, 1) := by decide +kernel
theorem kd_method_11_code_16 : decode method_11_code 16 = .ok (.ireturn, 1) := by decide +kernel
theorem kd_method_12_code_0 : decode method_12_code 0 = .ok (.aload_n 2, 1) := by decide +kernel
theorem kd_method_12_code_1 : decode method_12_code 1 = .ok (.iconst 0, 1) := by decide +kernel
theorem kd_method_12_code_2 : decode method_12_code 2 = .ok (.aload_n 0, 1) := by decide +kernel
theorem kd_method_12_code_3 : decode method_12_code 3 = .ok (.iload_n 1, 1) := by decide +kernel
theorem kd_method_12_code_4 : decode method_12_code 4 = .ok (.invokevirtual 52, 3) := by decide +kernel
theorem kd_method_12_code_7 : decode method_12_code 7 = .ok (.i2l, 1) := by decide +kernel
theorem kd_method_12_code_8 : decode method_12_code 8 = .ok (.lastore, 1) := by decide +kernel
theorem kd_method_12_code_9 : decode method_12_code 9 = .ok (.goto 6, 3) := by decide +kernel
theorem kd_method_12_code_12 : decode method_12_code 12 = .ok (.astore_n 3, 1) := by decide +kernel
theorem kd_method_12_code_13 : decode method_12_code 13 = .ok (.iconst 1, 1) := by decide +kernel
theorem kd_method_12_code_14 : decode method_12_code 14 = .ok (.ireturn, 1) := by decide +kernel
theorem kd_method_12_code_15 : decode method_12_code 15 = .ok (.iconst 0, 1) := by decide +kernel
theorem kd_method_12_code_16 : decode method_12_code 16 = .ok (.ireturn, 1) := by decide +kernel
theorem kd_method_13_code_0 : decode method_13_code 0 = .ok (.aload_n 2, 1) := by decide +kernel
theorem kd_method_13_code_1 : decode method_13_code 1 = .ok (.iconst 0, 1) := by decide +kernel
theorem kd_method_13_code_2 : decode method_13_code 2 = .ok (.aload_n 0, 1) := by decide +kernel
theorem kd_method_13_code_3 : decode method_13_code 3 = .ok (.iload_n 1, 1) := by decide +kernel
theorem kd_method_13_code_4 : decode method_13_code 4 = .ok (.invokevirtual 55, 3) := by decide +kernel
theorem kd_method_13_code_7 : decode method_13_code 7 = .ok (.i2l, 1) := by decide +kernel
theorem kd_method_13_code_8 : decode method_13_code 8 = .ok (.lastore, 1) := by decide +kernel
theorem kd_method_13_code_9 : decode method_13_code 9 = .ok (.goto 6, 3) := by decide +kernel
theorem kd_method_13_code_12 : decode method_13_code 12 = .ok (.astore_n 3, 1) := by decide +kernel
theorem kd_method_13_code_13 : decode method_13_code 13 = .ok (.iconst 1, 1) := by decide +kernel
theorem kd_method_13_code_14 : decode method_13_code 14 = .ok (.ireturn, 1) := by decide +kernel
theorem kd_method_13_code_15 : decode method_13_code 15 = .ok (.iconst 0, 1) := by decide +kernel
theorem kd_method_13_code_16 : decode method_13_code 16 = .ok (.ireturn, 1) := by decide +kernel
set_option maxHeartbeats 4000000 in
set_option maxRecDepth 100000 in
theorem c_L_block (l : Launch) (hst : l.stackTraces = false) (D : va_G) (q : Nat → Nat) (cA : Nat → ClassId) (SA : Nat → Nat) (z : Sta) (sz : Nat) (K : Int32 → Sta → Prop) (h : wp_L_block z K) : Met l ke_L_block (kc_L_block :: lw_g) { frames := 7, cells := 1, slots := 6, locals := 102 } (wk_PcL D q cA SA [.ref (q 0), .ref (q 51)] z sz) (va_Qi K (wk_B D q cA (va_A (wW q cA z) sz)) (va_A (wW q cA z) sz)) 1 6 (va_A (wW q cA z) sz) := by
  refine va_MetW (cc := method_3_code) (maxL := 3) (ret := (some .int)) (hh := [(0, 8, 11, 13)]) (by decide) rfl ?_
  intro p e s m args below meth c s₁ B hml hv
  obtain ⟨rfl, hsz, hP, hK, hD0, hXL⟩ := hv
  have hx := B.exec
  have hb := B.bytes
  have hr := B.returns
  have hlocks := B.notSynchronized
  have hts0 := atoms_spec (ws := kc_L_block :: lw_g) B.pre
  have htab := vx_table (x := ke_L_block) B (hts0 _ List.mem_cons_self)
  have hts : ∀ w ∈ lw_g, w.before ([.ref (q 0), .ref (q 51)] : List Value).toArray s = true := fun w hw => hts0 w (List.mem_cons_of_mem _ hw)
  have hown : s.vm.findClass kr_L = some m.cls := findClass_of_methodNamed B.named
  subst hsz
  have hD := hD0.self (sz := s.heap.size)
  generalize hAe : va_A (wW q cA z) s.heap.size = A at hD hXL ⊢
  have hA : ∀ x : Nat, s.heap.size ≤ x → A x := fun x hx => by rw [← hAe]; exact Or.inr hx
  have hl := lv_entry ([.ref (q 0), .ref (q 51)]) (n := 3) (Nat.le_of_ble_eq_true rfl)
  rw [lg_entry_eq]
  generalize (lg_sl ([.ref (q 0), .ref (q 51)]) ++ List.replicate (3 - (lg_sl ([.ref (q 0), .ref (q 51)])).length) Slot.unset).toArray = ls at hl ⊢
  have hl : lv_has ls 3 [(0, .ref (q 0)), (1, .ref (q 51))] := hl
  have hV : wk_S D q cA A s.heap z s.heap [] := ⟨hP, hD, va_S.rf⟩
  have hret : ∀ (r : Int32) (u : Sta) (H : Heap) (locs : List Loc) (pc : Nat) (ls : Array Slot), K r u → wk_S D q cA A s.heap u H locs → decode method_3_code pc = .ok (.ireturn, 1) → W p l e (headSpec (kc_L_block :: lw_g) { frames := 7, cells := 1, slots := 6, locals := 102 }).room s m ([.ref (q 0), .ref (q 51)] : List Value).toArray below meth c H locs 1 6 (MQ below (va_Qi K (wk_B D q cA A) A) ([.ref (q 0), .ref (q 51)] : List Value).toArray s 1 6 A) (F0 m pc ls [.int r]) := fun r u H locs pc ls hk hV hd => W.iret hx hb hr (fun t ht hW => ⟨⟨r, u, rfl, hk, by rw [ht]; exact hV.1, va_K.moved hW.alike hK, hV.2.1⟩, hV.2.2.F ht⟩) hV.2.2.2.2 hd
  refine lv_aload_n hx hb kd_method_3_code_0 rfl (lv_at hl 1 rfl) ?_
  refine lv_iconst (v := 0) hx hb kd_method_3_code_1 (by decide) ?_
  refine lv_aload_n hx hb kd_method_3_code_2 rfl (lv_at hl 0 rfl) ?_
  refine wk_xcalli (vx_runV (As := []) (rest := [.int 0, .ref (q 51)]) ⟨hx, hb, hml, hown, hts⟩ (c_C_block l hst D q cA SA z s.heap.size _ _ h) (cwV 0 hts gs_L_7 rfl rfl rfl (by decide +kernel) ⟨Nat.le_of_ble_eq_true rfl, Nat.le_of_ble_eq_true rfl⟩) (wk_preVX hK hV hA hXL.1 0 0 rfl rfl []) rfl rfl hl.1 rfl (lv_room (Nat.le_of_ble_eq_true rfl)) kd_method_3_code_3 ⟨Nat.le_of_ble_eq_true rfl, Nat.le_of_ble_eq_true rfl⟩) hV hA ?_ ?_
  · intro E ce q9 u H1 locs1 hT hV1 hce hcv hcl
    obtain ⟨rfl, hk⟩ := hT
    refine vx_catch (name := "java/lang/IllegalStateException") hown [] ⟨0, 8, 11, 13⟩ [] (htab.trans rfl) (fun z hz => nomatch hz) (by decide) (show (13 : Nat) ≠ 0 by decide) (hts _ hw_200) (va_tabs (u := s) rfl rfl (hXL.1.2.2.1 (Cond.castable "java/lang/IllegalStateException" "java/lang/IllegalStateException") (by decide +kernel))) hce hcv hcl ?_
    refine lv_astore_n hx hb kd_method_3_code_11 rfl hl (by decide) rfl (fun ls hl => ?_)
    refine lv_iconst (v := 1) hx hb kd_method_3_code_12 (by decide) ?_
    exact hret 1 u H1 locs1 13 ls hk hV1 kd_method_3_code_13
  · intro r u H1 locs1 hk hV1
    refine lv_i2l hx hb kd_method_3_code_6 rfl ?_
    refine wk_last hx hb hK hV1 51 46 10 rfl rfl (ks_51 q cA u) (show vp_in 0 1 by unfold vp_in; decide) kd_method_3_code_7 (fun H2 locs2 hV2 => ?_)
    refine lv_goto (tgt := 14) hx hb kd_method_3_code_8 (by decide) ?_
    refine lv_iconst (v := 0) hx hb kd_method_3_code_14 (by decide) ?_
    exact hret 0 _ H2 locs2 15 ls (hk _ rfl) hV2 kd_method_3_code_15
set_option maxHeartbeats 4000000 in
set_option maxRecDepth 100000 in
theorem c_L_statement (l : Launch) (hst : l.stackTraces = false) (D : va_G) (q : Nat → Nat) (cA : Nat → ClassId) (SA : Nat → Nat) (x1 : Int32) (x2 : Int32) (x3 : Int32) (x4 : Int32) (x5 : Int32) (z : Sta) (sz : Nat) (K : Int32 → Sta → Prop) (h : wp_L_statement x1 x2 x3 x4 x5 z K) : Met l ke_L_statement (kc_L_statement :: lw_g) { frames := 7, cells := 1, slots := 6, locals := 108 } (wk_PcL D q cA SA [.ref (q 0), .int x1, .int x2, .int x3, .int x4, .int x5, .ref (q 51)] z sz) (va_Qi K (wk_B D q cA (va_A (wW q cA z) sz)) (va_A (wW q cA z) sz)) 1 6 (va_A (wW q cA z) sz) := by
  refine va_MetW (cc := method_4_code) (maxL := 8) (ret := (some .int)) (hh := [(0, 16, 19, 19), (0, 16, 23, 13)]) (by decide) rfl ?_
  intro p e s m args below meth c s₁ B hml hv
  obtain ⟨rfl, hsz, hP, hK, hD0, hXL⟩ := hv
  have hx := B.exec
  have hb := B.bytes
  have hr := B.returns
  have hlocks := B.notSynchronized
  have hts0 := atoms_spec (ws := kc_L_statement :: lw_g) B.pre
  have htab := vx_table (x := ke_L_statement) B (hts0 _ List.mem_cons_self)
  have hts : ∀ w ∈ lw_g, w.before ([.ref (q 0), .int x1, .int x2, .int x3, .int x4, .int x5, .ref (q 51)] : List Value).toArray s = true := fun w hw => hts0 w (List.mem_cons_of_mem _ hw)
  have hown : s.vm.findClass kr_L = some m.cls := findClass_of_methodNamed B.named
  subst hsz
  have hD := hD0.self (sz := s.heap.size)
  generalize hAe : va_A (wW q cA z) s.heap.size = A at hD hXL ⊢
  have hA : ∀ x : Nat, s.heap.size ≤ x → A x := fun x hx => by rw [← hAe]; exact Or.inr hx
  have hl := lv_entry ([.ref (q 0), .int x1, .int x2, .int x3, .int x4, .int x5, .ref (q 51)]) (n := 8) (Nat.le_of_ble_eq_true rfl)
  rw [lg_entry_eq]
  generalize (lg_sl ([.ref (q 0), .int x1, .int x2, .int x3, .int x4, .int x5, .ref (q 51)]) ++ List.replicate (8 - (lg_sl ([.ref (q 0), .int x1, .int x2, .int x3, .int x4, .int x5, .ref (q 51)])).length) Slot.unset).toArray = ls at hl ⊢
  have hl : lv_has ls 8 [(0, .ref (q 0)), (1, .int x1), (2, .int x2), (3, .int x3), (4, .int x4), (5, .int x5), (6, .ref (q 51))] := hl
  have hV : wk_S D q cA A s.heap z s.heap [] := ⟨hP, hD, va_S.rf⟩
  have hret : ∀ (r : Int32) (u : Sta) (H : Heap) (locs : List Loc) (pc : Nat) (ls : Array Slot), K r u → wk_S D q cA A s.heap u H locs → decode method_4_code pc = .ok (.ireturn, 1) → W p l e (headSpec (kc_L_statement :: lw_g) { frames := 7, cells := 1, slots := 6, locals := 108 }).room s m ([.ref (q 0), .int x1, .int x2, .int x3, .int x4, .int x5, .ref (q 51)] : List Value).toArray below meth c H locs 1 6 (MQ below (va_Qi K (wk_B D q cA A) A) ([.ref (q 0), .int x1, .int x2, .int x3, .int x4, .int x5, .ref (q 51)] : List Value).toArray s 1 6 A) (F0 m pc ls [.int r]) := fun r u H locs pc ls hk hV hd => W.iret hx hb hr (fun t ht hW => ⟨⟨r, u, rfl, hk, by rw [ht]; exact hV.1, va_K.moved hW.alike hK, hV.2.1⟩, hV.2.2.F ht⟩) hV.2.2.2.2 hd
  refine lv_aload hx hb kd_method_4_code_0 (lv_at hl 6 rfl) ?_
  refine lv_iconst (v := 0) hx hb kd_method_4_code_2 (by decide) ?_
  refine lv_aload_n hx hb kd_method_4_code_3 rfl (lv_at hl 0 rfl) ?_
  refine lv_iload_n hx hb kd_method_4_code_4 rfl (lv_at hl 1 rfl) ?_
  refine lv_iload_n hx hb kd_method_4_code_5 rfl (lv_at hl 2 rfl) ?_
  refine lv_iload_n hx hb kd_method_4_code_6 rfl (lv_at hl 3 rfl) ?_
  refine lv_iload hx hb kd_method_4_code_7 (lv_at hl 4 rfl) ?_
  refine lv_iload hx hb kd_method_4_code_9 (lv_at hl 5 rfl) ?_
  refine wk_xcalli (vx_runV (As := [.int x1, .int x2, .int x3, .int x4, .int x5]) (rest := [.int 0, .ref (q 51)]) ⟨hx, hb, hml, hown, hts⟩ (c_C_statement l hst D q cA SA x1 x2 x3 x4 x5 z s.heap.size _ _ h) (cwV 5 hts gs_L_15 rfl rfl rfl (by decide +kernel) ⟨Nat.le_of_ble_eq_true rfl, Nat.le_of_ble_eq_true rfl⟩) (wk_preVX hK hV hA hXL.1 0 0 rfl rfl [.int x1, .int x2, .int x3, .int x4, .int x5]) rfl rfl hl.1 rfl (lv_room (Nat.le_of_ble_eq_true rfl)) kd_method_4_code_11 ⟨Nat.le_of_ble_eq_true rfl, Nat.le_of_ble_eq_true rfl⟩) hV hA ?_ ?_
  · intro E ce q9 u H1 locs1 hT hV1 hce hcv hcl
    rcases hT with ⟨rfl, hk⟩ | ⟨rfl, hk⟩
    · refine vx_catch (name := "java/lang/IllegalArgumentException") hown [] ⟨0, 16, 19, 19⟩ [⟨0, 16, 23, 13⟩] (htab.trans rfl) (fun z hz => nomatch hz) (by decide) (show (19 : Nat) ≠ 0 by decide) (hts _ hw_286) (va_tabs (u := s) rfl rfl (hXL.1.2.2.1 (Cond.castable "java/lang/IllegalArgumentException" "java/lang/IllegalArgumentException") (by decide +kernel))) hce hcv hcl ?_
      refine lv_astore hx hb kd_method_4_code_19 hl (by decide) rfl (fun ls hl => ?_)
      refine lv_iconst (v := 1) hx hb kd_method_4_code_21 (by decide) ?_
      exact hret 1 u H1 locs1 22 ls hk hV1 kd_method_4_code_22
    · refine vx_catch (name := "java/lang/IllegalStateException") hown [⟨0, 16, 19, 19⟩] ⟨0, 16, 23, 13⟩ [] (htab.trans rfl) (fun z hz => by rw [List.mem_singleton.mp hz]; exact Or.inr ⟨(show (19 : Nat) ≠ 0 by decide), "java/lang/IllegalArgumentException", (hts _ hw_286), hXL.2.1⟩) (by decide) (show (13 : Nat) ≠ 0 by decide) (hts _ hw_200) (va_tabs (u := s) rfl rfl (hXL.1.2.2.1 (Cond.castable "java/lang/IllegalStateException" "java/lang/IllegalStateException") (by decide +kernel))) hce hcv hcl ?_
      refine lv_astore hx hb kd_method_4_code_23 hl (by decide) rfl (fun ls hl => ?_)
      refine lv_iconst (v := 2) hx hb kd_method_4_code_25 (by decide) ?_
      exact hret 2 u H1 locs1 26 ls hk hV1 kd_method_4_code_26
  · intro r u H1 locs1 hk hV1
    refine lv_i2l hx hb kd_method_4_code_14 rfl ?_
    refine wk_last hx hb hK hV1 51 46 10 rfl rfl (ks_51 q cA u) (show vp_in 0 1 by unfold vp_in; decide) kd_method_4_code_15 (fun H2 locs2 hV2 => ?_)
    refine lv_goto (tgt := 27) hx hb kd_method_4_code_16 (by decide) ?_
    refine lv_iconst (v := 0) hx hb kd_method_4_code_27 (by decide) ?_
    exact hret 0 _ H2 locs2 28 ls (hk _ rfl) hV2 kd_method_4_code_28
set_option maxHeartbeats 4000000 in
set_option maxRecDepth 100000 in
theorem c_L_end (l : Launch) (hst : l.stackTraces = false) (D : va_G) (q : Nat → Nat) (cA : Nat → ClassId) (SA : Nat → Nat) (x1 : Int32) (x2 : Int32) (x3 : Int32) (x4 : Int32) (x5 : Int32) (z : Sta) (sz : Nat) (K : Int32 → Sta → Prop) (h : wp_L_end x1 x2 x3 x4 x5 z K) : Met l ke_L_end (kc_L_end :: lw_g) { frames := 7, cells := 1, slots := 6, locals := 107 } (wk_PcL D q cA SA [.ref (q 0), .int x1, .int x2, .int x3, .int x4, .int x5, .ref (q 51)] z sz) (va_Qi K (wk_B D q cA (va_A (wW q cA z) sz)) (va_A (wW q cA z) sz)) 1 6 (va_A (wW q cA z) sz) := by
  refine va_MetW (cc := method_5_code) (maxL := 8) (ret := (some .int)) (hh := [(0, 16, 19, 19)]) (by decide) rfl ?_
  intro p e s m args below meth c s₁ B hml hv
  obtain ⟨rfl, hsz, hP, hK, hD0, hXL⟩ := hv
  have hx := B.exec
  have hb := B.bytes
  have hr := B.returns
  have hlocks := B.notSynchronized
  have hts0 := atoms_spec (ws := kc_L_end :: lw_g) B.pre
  have htab := vx_table (x := ke_L_end) B (hts0 _ List.mem_cons_self)
  have hts : ∀ w ∈ lw_g, w.before ([.ref (q 0), .int x1, .int x2, .int x3, .int x4, .int x5, .ref (q 51)] : List Value).toArray s = true := fun w hw => hts0 w (List.mem_cons_of_mem _ hw)
  have hown : s.vm.findClass kr_L = some m.cls := findClass_of_methodNamed B.named
  subst hsz
  have hD := hD0.self (sz := s.heap.size)
  generalize hAe : va_A (wW q cA z) s.heap.size = A at hD hXL ⊢
  have hA : ∀ x : Nat, s.heap.size ≤ x → A x := fun x hx => by rw [← hAe]; exact Or.inr hx
  have hl := lv_entry ([.ref (q 0), .int x1, .int x2, .int x3, .int x4, .int x5, .ref (q 51)]) (n := 8) (Nat.le_of_ble_eq_true rfl)
  rw [lg_entry_eq]
  generalize (lg_sl ([.ref (q 0), .int x1, .int x2, .int x3, .int x4, .int x5, .ref (q 51)]) ++ List.replicate (8 - (lg_sl ([.ref (q 0), .int x1, .int x2, .int x3, .int x4, .int x5, .ref (q 51)])).length) Slot.unset).toArray = ls at hl ⊢
  have hl : lv_has ls 8 [(0, .ref (q 0)), (1, .int x1), (2, .int x2), (3, .int x3), (4, .int x4), (5, .int x5), (6, .ref (q 51))] := hl
  have hV : wk_S D q cA A s.heap z s.heap [] := ⟨hP, hD, va_S.rf⟩
  have hret : ∀ (r : Int32) (u : Sta) (H : Heap) (locs : List Loc) (pc : Nat) (ls : Array Slot), K r u → wk_S D q cA A s.heap u H locs → decode method_5_code pc = .ok (.ireturn, 1) → W p l e (headSpec (kc_L_end :: lw_g) { frames := 7, cells := 1, slots := 6, locals := 107 }).room s m ([.ref (q 0), .int x1, .int x2, .int x3, .int x4, .int x5, .ref (q 51)] : List Value).toArray below meth c H locs 1 6 (MQ below (va_Qi K (wk_B D q cA A) A) ([.ref (q 0), .int x1, .int x2, .int x3, .int x4, .int x5, .ref (q 51)] : List Value).toArray s 1 6 A) (F0 m pc ls [.int r]) := fun r u H locs pc ls hk hV hd => W.iret hx hb hr (fun t ht hW => ⟨⟨r, u, rfl, hk, by rw [ht]; exact hV.1, va_K.moved hW.alike hK, hV.2.1⟩, hV.2.2.F ht⟩) hV.2.2.2.2 hd
  refine lv_aload hx hb kd_method_5_code_0 (lv_at hl 6 rfl) ?_
  refine lv_iconst (v := 0) hx hb kd_method_5_code_2 (by decide) ?_
  refine lv_aload_n hx hb kd_method_5_code_3 rfl (lv_at hl 0 rfl) ?_
  refine lv_iload_n hx hb kd_method_5_code_4 rfl (lv_at hl 1 rfl) ?_
  refine lv_iload_n hx hb kd_method_5_code_5 rfl (lv_at hl 2 rfl) ?_
  refine lv_iload_n hx hb kd_method_5_code_6 rfl (lv_at hl 3 rfl) ?_
  refine lv_iload hx hb kd_method_5_code_7 (lv_at hl 4 rfl) ?_
  refine lv_iload hx hb kd_method_5_code_9 (lv_at hl 5 rfl) ?_
  refine wk_xcalli (vx_runV (As := [.int x1, .int x2, .int x3, .int x4, .int x5]) (rest := [.int 0, .ref (q 51)]) ⟨hx, hb, hml, hown, hts⟩ (c_C_end l hst D q cA SA x1 x2 x3 x4 x5 z s.heap.size _ _ h) (cwV 5 hts gs_L_21 rfl rfl rfl (by decide +kernel) ⟨Nat.le_of_ble_eq_true rfl, Nat.le_of_ble_eq_true rfl⟩) (wk_preVX hK hV hA hXL.1 0 0 rfl rfl [.int x1, .int x2, .int x3, .int x4, .int x5]) rfl rfl hl.1 rfl (lv_room (Nat.le_of_ble_eq_true rfl)) kd_method_5_code_11 ⟨Nat.le_of_ble_eq_true rfl, Nat.le_of_ble_eq_true rfl⟩) hV hA ?_ ?_
  · intro E ce q9 u H1 locs1 hT hV1 hce hcv hcl
    obtain ⟨rfl, hk⟩ := hT
    refine vx_catch (name := "java/lang/IllegalArgumentException") hown [] ⟨0, 16, 19, 19⟩ [] (htab.trans rfl) (fun z hz => nomatch hz) (by decide) (show (19 : Nat) ≠ 0 by decide) (hts _ hw_286) (va_tabs (u := s) rfl rfl (hXL.1.2.2.1 (Cond.castable "java/lang/IllegalArgumentException" "java/lang/IllegalArgumentException") (by decide +kernel))) hce hcv hcl ?_
    refine lv_astore hx hb kd_method_5_code_19 hl (by decide) rfl (fun ls hl => ?_)
    refine lv_iconst (v := 1) hx hb kd_method_5_code_21 (by decide) ?_
    exact hret 1 u H1 locs1 22 ls hk hV1 kd_method_5_code_22
  · intro r u H1 locs1 hk hV1
    refine lv_i2l hx hb kd_method_5_code_14 rfl ?_
    refine wk_last hx hb hK hV1 51 46 10 rfl rfl (ks_51 q cA u) (show vp_in 0 1 by unfold vp_in; decide) kd_method_5_code_15 (fun H2 locs2 hV2 => ?_)
    refine lv_goto (tgt := 23) hx hb kd_method_5_code_16 (by decide) ?_
    refine lv_iconst (v := 0) hx hb kd_method_5_code_23 (by decide) ?_
    exact hret 0 _ H2 locs2 24 ls (hk _ rfl) hV2 kd_method_5_code_24
set_option maxHeartbeats 4000000 in
set_option maxRecDepth 100000 in
theorem c_L_plan (l : Launch) (hst : l.stackTraces = false) (D : va_G) (q : Nat → Nat) (cA : Nat → ClassId) (SA : Nat → Nat) (z : Sta) (sz : Nat) (K : Int32 → Sta → Prop) (h : wp_L_plan z K) : Met l ke_L_plan (kc_L_plan :: lw_g) { frames := 7, cells := 1, slots := 6, locals := 111 } (wk_PcL D q cA SA [.ref (q 0), .ref (q 51)] z sz) (va_Qi K (wk_B D q cA (va_A (wW q cA z) sz)) (va_A (wW q cA z) sz)) 1 6 (va_A (wW q cA z) sz) := by
  refine va_MetW (cc := method_6_code) (maxL := 3) (ret := (some .int)) (hh := [(0, 8, 11, 13), (0, 8, 14, 27)]) (by decide) rfl ?_
  intro p e s m args below meth c s₁ B hml hv
  obtain ⟨rfl, hsz, hP, hK, hD0, hXL⟩ := hv
  have hx := B.exec
  have hb := B.bytes
  have hr := B.returns
  have hlocks := B.notSynchronized
  have hts0 := atoms_spec (ws := kc_L_plan :: lw_g) B.pre
  have htab := vx_table (x := ke_L_plan) B (hts0 _ List.mem_cons_self)
  have hts : ∀ w ∈ lw_g, w.before ([.ref (q 0), .ref (q 51)] : List Value).toArray s = true := fun w hw => hts0 w (List.mem_cons_of_mem _ hw)
  have hown : s.vm.findClass kr_L = some m.cls := findClass_of_methodNamed B.named
  subst hsz
  have hD := hD0.self (sz := s.heap.size)
  generalize hAe : va_A (wW q cA z) s.heap.size = A at hD hXL ⊢
  have hA : ∀ x : Nat, s.heap.size ≤ x → A x := fun x hx => by rw [← hAe]; exact Or.inr hx
  have hl := lv_entry ([.ref (q 0), .ref (q 51)]) (n := 3) (Nat.le_of_ble_eq_true rfl)
  rw [lg_entry_eq]
  generalize (lg_sl ([.ref (q 0), .ref (q 51)]) ++ List.replicate (3 - (lg_sl ([.ref (q 0), .ref (q 51)])).length) Slot.unset).toArray = ls at hl ⊢
  have hl : lv_has ls 3 [(0, .ref (q 0)), (1, .ref (q 51))] := hl
  have hV : wk_S D q cA A s.heap z s.heap [] := ⟨hP, hD, va_S.rf⟩
  have hret : ∀ (r : Int32) (u : Sta) (H : Heap) (locs : List Loc) (pc : Nat) (ls : Array Slot), K r u → wk_S D q cA A s.heap u H locs → decode method_6_code pc = .ok (.ireturn, 1) → W p l e (headSpec (kc_L_plan :: lw_g) { frames := 7, cells := 1, slots := 6, locals := 111 }).room s m ([.ref (q 0), .ref (q 51)] : List Value).toArray below meth c H locs 1 6 (MQ below (va_Qi K (wk_B D q cA A) A) ([.ref (q 0), .ref (q 51)] : List Value).toArray s 1 6 A) (F0 m pc ls [.int r]) := fun r u H locs pc ls hk hV hd => W.iret hx hb hr (fun t ht hW => ⟨⟨r, u, rfl, hk, by rw [ht]; exact hV.1, va_K.moved hW.alike hK, hV.2.1⟩, hV.2.2.F ht⟩) hV.2.2.2.2 hd
  refine lv_aload_n hx hb kd_method_6_code_0 rfl (lv_at hl 1 rfl) ?_
  refine lv_iconst (v := 0) hx hb kd_method_6_code_1 (by decide) ?_
  refine lv_aload_n hx hb kd_method_6_code_2 rfl (lv_at hl 0 rfl) ?_
  refine wk_xcalli (vx_runV (As := []) (rest := [.int 0, .ref (q 51)]) ⟨hx, hb, hml, hown, hts⟩ (c_C_plan l hst D q cA SA z s.heap.size _ _ h) (cwV 0 hts gs_L_24 rfl rfl rfl (by decide +kernel) ⟨Nat.le_of_ble_eq_true rfl, Nat.le_of_ble_eq_true rfl⟩) (wk_preVX hK hV hA hXL.1 0 0 rfl rfl []) rfl rfl hl.1 rfl (lv_room (Nat.le_of_ble_eq_true rfl)) kd_method_6_code_3 ⟨Nat.le_of_ble_eq_true rfl, Nat.le_of_ble_eq_true rfl⟩) hV hA ?_ ?_
  · intro E ce q9 u H1 locs1 hT hV1 hce hcv hcl
    rcases hT with ⟨rfl, hk⟩ | ⟨rfl, hk⟩
    · refine vx_catch (name := "java/lang/IllegalStateException") hown [] ⟨0, 8, 11, 13⟩ [⟨0, 8, 14, 27⟩] (htab.trans rfl) (fun z hz => nomatch hz) (by decide) (show (13 : Nat) ≠ 0 by decide) (hts _ hw_200) (va_tabs (u := s) rfl rfl (hXL.1.2.2.1 (Cond.castable "java/lang/IllegalStateException" "java/lang/IllegalStateException") (by decide +kernel))) hce hcv hcl ?_
      refine lv_astore_n hx hb kd_method_6_code_11 rfl hl (by decide) rfl (fun ls hl => ?_)
      refine lv_iconst (v := 1) hx hb kd_method_6_code_12 (by decide) ?_
      exact hret 1 u H1 locs1 13 ls hk hV1 kd_method_6_code_13
    · refine vx_catch (name := "java/lang/UnsupportedOperationException") hown [⟨0, 8, 11, 13⟩] ⟨0, 8, 14, 27⟩ [] (htab.trans rfl) (fun z hz => by rw [List.mem_singleton.mp hz]; exact Or.inr ⟨(show (13 : Nat) ≠ 0 by decide), "java/lang/IllegalStateException", (hts _ hw_200), hXL.2.2.1⟩) (by decide) (show (27 : Nat) ≠ 0 by decide) (hts _ hw_353) (va_tabs (u := s) rfl rfl (hXL.1.2.2.1 (Cond.castable "java/lang/UnsupportedOperationException" "java/lang/UnsupportedOperationException") (by decide +kernel))) hce hcv hcl ?_
      refine lv_astore_n hx hb kd_method_6_code_14 rfl hl (by decide) rfl (fun ls hl => ?_)
      refine lv_iconst (v := 2) hx hb kd_method_6_code_15 (by decide) ?_
      exact hret 2 u H1 locs1 16 ls hk hV1 kd_method_6_code_16
  · intro r u H1 locs1 hk hV1
    refine lv_i2l hx hb kd_method_6_code_6 rfl ?_
    refine wk_last hx hb hK hV1 51 46 10 rfl rfl (ks_51 q cA u) (show vp_in 0 1 by unfold vp_in; decide) kd_method_6_code_7 (fun H2 locs2 hV2 => ?_)
    refine lv_goto (tgt := 17) hx hb kd_method_6_code_8 (by decide) ?_
    refine lv_iconst (v := 0) hx hb kd_method_6_code_17 (by decide) ?_
    exact hret 0 _ H2 locs2 18 ls (hk _ rfl) hV2 kd_method_6_code_18
set_option maxHeartbeats 4000000 in
set_option maxRecDepth 100000 in
theorem c_L_set (l : Launch) (hst : l.stackTraces = false) (D : va_G) (q : Nat → Nat) (cA : Nat → ClassId) (SA : Nat → Nat) (x1 : Int32) (x2 : Int32) (z : Sta) (sz : Nat) (K : Int32 → Sta → Prop) (h : wp_L_set x1 x2 z K) : Met l ke_L_set (kc_L_set :: lw_g) { frames := 7, cells := 1, slots := 6, locals := 104 } (wk_PcL D q cA SA [.ref (q 0), .int x1, .int x2, .ref (q 51)] z sz) (va_Qi K (wk_B D q cA (va_A (wW q cA z) sz)) (va_A (wW q cA z) sz)) 1 6 (va_A (wW q cA z) sz) := by
  refine va_MetW (cc := method_7_code) (maxL := 5) (ret := (some .int)) (hh := [(0, 9, 12, 13), (0, 9, 16, 33)]) (by decide) rfl ?_
  intro p e s m args below meth c s₁ B hml hv
  obtain ⟨rfl, hsz, hP, hK, hD0, hXL⟩ := hv
  have hx := B.exec
  have hb := B.bytes
  have hr := B.returns
  have hlocks := B.notSynchronized
  have hts0 := atoms_spec (ws := kc_L_set :: lw_g) B.pre
  have htab := vx_table (x := ke_L_set) B (hts0 _ List.mem_cons_self)
  have hts : ∀ w ∈ lw_g, w.before ([.ref (q 0), .int x1, .int x2, .ref (q 51)] : List Value).toArray s = true := fun w hw => hts0 w (List.mem_cons_of_mem _ hw)
  have hown : s.vm.findClass kr_L = some m.cls := findClass_of_methodNamed B.named
  subst hsz
  have hD := hD0.self (sz := s.heap.size)
  generalize hAe : va_A (wW q cA z) s.heap.size = A at hD hXL ⊢
  have hA : ∀ x : Nat, s.heap.size ≤ x → A x := fun x hx => by rw [← hAe]; exact Or.inr hx
  have hl := lv_entry ([.ref (q 0), .int x1, .int x2, .ref (q 51)]) (n := 5) (Nat.le_of_ble_eq_true rfl)
  rw [lg_entry_eq]
  generalize (lg_sl ([.ref (q 0), .int x1, .int x2, .ref (q 51)]) ++ List.replicate (5 - (lg_sl ([.ref (q 0), .int x1, .int x2, .ref (q 51)])).length) Slot.unset).toArray = ls at hl ⊢
  have hl : lv_has ls 5 [(0, .ref (q 0)), (1, .int x1), (2, .int x2), (3, .ref (q 51))] := hl
  have hV : wk_S D q cA A s.heap z s.heap [] := ⟨hP, hD, va_S.rf⟩
  have hret : ∀ (r : Int32) (u : Sta) (H : Heap) (locs : List Loc) (pc : Nat) (ls : Array Slot), K r u → wk_S D q cA A s.heap u H locs → decode method_7_code pc = .ok (.ireturn, 1) → W p l e (headSpec (kc_L_set :: lw_g) { frames := 7, cells := 1, slots := 6, locals := 104 }).room s m ([.ref (q 0), .int x1, .int x2, .ref (q 51)] : List Value).toArray below meth c H locs 1 6 (MQ below (va_Qi K (wk_B D q cA A) A) ([.ref (q 0), .int x1, .int x2, .ref (q 51)] : List Value).toArray s 1 6 A) (F0 m pc ls [.int r]) := fun r u H locs pc ls hk hV hd => W.iret hx hb hr (fun t ht hW => ⟨⟨r, u, rfl, hk, by rw [ht]; exact hV.1, va_K.moved hW.alike hK, hV.2.1⟩, hV.2.2.F ht⟩) hV.2.2.2.2 hd
  refine lv_aload_n hx hb kd_method_7_code_0 rfl (lv_at hl 3 rfl) ?_
  refine lv_iconst (v := 0) hx hb kd_method_7_code_1 (by decide) ?_
  refine lv_aload_n hx hb kd_method_7_code_2 rfl (lv_at hl 0 rfl) ?_
  refine lv_iload_n hx hb kd_method_7_code_3 rfl (lv_at hl 1 rfl) ?_
  refine lv_iload_n hx hb kd_method_7_code_4 rfl (lv_at hl 2 rfl) ?_
  refine wk_xcalll (vx_runV (As := [.int x1, .int x2]) (rest := [.int 0, .ref (q 51)]) ⟨hx, hb, hml, hown, hts⟩ (c_C_set l hst D q cA SA x1 x2 z s.heap.size _ _ h) (cwV 2 hts gs_L_29 rfl rfl rfl (by decide +kernel) ⟨Nat.le_of_ble_eq_true rfl, Nat.le_of_ble_eq_true rfl⟩) (wk_preVX hK hV hA hXL.1 0 0 rfl rfl [.int x1, .int x2]) rfl rfl hl.1 rfl (lv_room (Nat.le_of_ble_eq_true rfl)) kd_method_7_code_5 ⟨Nat.le_of_ble_eq_true rfl, Nat.le_of_ble_eq_true rfl⟩) hV hA ?_ ?_
  · intro E ce q9 u H1 locs1 hT hV1 hce hcv hcl
    rcases hT with ⟨rfl, hk⟩ | ⟨rfl, hk⟩
    · refine vx_catch (name := "java/lang/IllegalStateException") hown [] ⟨0, 9, 12, 13⟩ [⟨0, 9, 16, 33⟩] (htab.trans rfl) (fun z hz => nomatch hz) (by decide) (show (13 : Nat) ≠ 0 by decide) (hts _ hw_200) (va_tabs (u := s) rfl rfl (hXL.1.2.2.1 (Cond.castable "java/lang/IllegalStateException" "java/lang/IllegalStateException") (by decide +kernel))) hce hcv hcl ?_
      refine lv_astore hx hb kd_method_7_code_12 hl (by decide) rfl (fun ls hl => ?_)
      refine lv_iconst (v := 1) hx hb kd_method_7_code_14 (by decide) ?_
      exact hret 1 u H1 locs1 15 ls hk hV1 kd_method_7_code_15
    · refine vx_catch (name := "java/lang/IndexOutOfBoundsException") hown [⟨0, 9, 12, 13⟩] ⟨0, 9, 16, 33⟩ [] (htab.trans rfl) (fun z hz => by rw [List.mem_singleton.mp hz]; exact Or.inr ⟨(show (13 : Nat) ≠ 0 by decide), "java/lang/IllegalStateException", (hts _ hw_200), hXL.2.2.2.1⟩) (by decide) (show (33 : Nat) ≠ 0 by decide) (hts _ hw_440) (va_tabs (u := s) rfl rfl (hXL.1.2.2.1 (Cond.castable "java/lang/IndexOutOfBoundsException" "java/lang/IndexOutOfBoundsException") (by decide +kernel))) hce hcv hcl ?_
      refine lv_astore hx hb kd_method_7_code_16 hl (by decide) rfl (fun ls hl => ?_)
      refine lv_iconst (v := 2) hx hb kd_method_7_code_18 (by decide) ?_
      exact hret 2 u H1 locs1 19 ls hk hV1 kd_method_7_code_19
  · intro r u H1 locs1 hk hV1
    refine wk_last hx hb hK hV1 51 46 10 rfl rfl (ks_51 q cA u) (show vp_in 0 1 by unfold vp_in; decide) kd_method_7_code_8 (fun H2 locs2 hV2 => ?_)
    refine lv_goto (tgt := 20) hx hb kd_method_7_code_9 (by decide) ?_
    refine lv_iconst (v := 0) hx hb kd_method_7_code_20 (by decide) ?_
    exact hret 0 _ H2 locs2 21 ls (hk _ rfl) hV2 kd_method_7_code_21
set_option maxHeartbeats 4000000 in
set_option maxRecDepth 100000 in
theorem c_L_put (l : Launch) (hst : l.stackTraces = false) (D : va_G) (q : Nat → Nat) (cA : Nat → ClassId) (SA : Nat → Nat) (x1 : Int32) (x2 : Int32) (z : Sta) (sz : Nat) (K : Int32 → Sta → Prop) (h : wp_L_put x1 x2 z K) : Met l ke_L_put (kc_L_put :: lw_g) { frames := 7, cells := 1, slots := 6, locals := 104 } (wk_PcL D q cA SA [.ref (q 0), .int x1, .int x2, .ref (q 51)] z sz) (va_Qi K (wk_B D q cA (va_A (wW q cA z) sz)) (va_A (wW q cA z) sz)) 1 6 (va_A (wW q cA z) sz) := by
  refine va_MetW (cc := method_8_code) (maxL := 5) (ret := (some .int)) (hh := [(0, 9, 12, 13), (0, 9, 16, 38)]) (by decide) rfl ?_
  intro p e s m args below meth c s₁ B hml hv
  obtain ⟨rfl, hsz, hP, hK, hD0, hXL⟩ := hv
  have hx := B.exec
  have hb := B.bytes
  have hr := B.returns
  have hlocks := B.notSynchronized
  have hts0 := atoms_spec (ws := kc_L_put :: lw_g) B.pre
  have htab := vx_table (x := ke_L_put) B (hts0 _ List.mem_cons_self)
  have hts : ∀ w ∈ lw_g, w.before ([.ref (q 0), .int x1, .int x2, .ref (q 51)] : List Value).toArray s = true := fun w hw => hts0 w (List.mem_cons_of_mem _ hw)
  have hown : s.vm.findClass kr_L = some m.cls := findClass_of_methodNamed B.named
  subst hsz
  have hD := hD0.self (sz := s.heap.size)
  generalize hAe : va_A (wW q cA z) s.heap.size = A at hD hXL ⊢
  have hA : ∀ x : Nat, s.heap.size ≤ x → A x := fun x hx => by rw [← hAe]; exact Or.inr hx
  have hl := lv_entry ([.ref (q 0), .int x1, .int x2, .ref (q 51)]) (n := 5) (Nat.le_of_ble_eq_true rfl)
  rw [lg_entry_eq]
  generalize (lg_sl ([.ref (q 0), .int x1, .int x2, .ref (q 51)]) ++ List.replicate (5 - (lg_sl ([.ref (q 0), .int x1, .int x2, .ref (q 51)])).length) Slot.unset).toArray = ls at hl ⊢
  have hl : lv_has ls 5 [(0, .ref (q 0)), (1, .int x1), (2, .int x2), (3, .ref (q 51))] := hl
  have hV : wk_S D q cA A s.heap z s.heap [] := ⟨hP, hD, va_S.rf⟩
  have hret : ∀ (r : Int32) (u : Sta) (H : Heap) (locs : List Loc) (pc : Nat) (ls : Array Slot), K r u → wk_S D q cA A s.heap u H locs → decode method_8_code pc = .ok (.ireturn, 1) → W p l e (headSpec (kc_L_put :: lw_g) { frames := 7, cells := 1, slots := 6, locals := 104 }).room s m ([.ref (q 0), .int x1, .int x2, .ref (q 51)] : List Value).toArray below meth c H locs 1 6 (MQ below (va_Qi K (wk_B D q cA A) A) ([.ref (q 0), .int x1, .int x2, .ref (q 51)] : List Value).toArray s 1 6 A) (F0 m pc ls [.int r]) := fun r u H locs pc ls hk hV hd => W.iret hx hb hr (fun t ht hW => ⟨⟨r, u, rfl, hk, by rw [ht]; exact hV.1, va_K.moved hW.alike hK, hV.2.1⟩, hV.2.2.F ht⟩) hV.2.2.2.2 hd
  refine lv_aload_n hx hb kd_method_8_code_0 rfl (lv_at hl 3 rfl) ?_
  refine lv_iconst (v := 0) hx hb kd_method_8_code_1 (by decide) ?_
  refine lv_aload_n hx hb kd_method_8_code_2 rfl (lv_at hl 0 rfl) ?_
  refine lv_iload_n hx hb kd_method_8_code_3 rfl (lv_at hl 1 rfl) ?_
  refine lv_iload_n hx hb kd_method_8_code_4 rfl (lv_at hl 2 rfl) ?_
  refine wk_xcalll (vx_runV (As := [.int x1, .int x2]) (rest := [.int 0, .ref (q 51)]) ⟨hx, hb, hml, hown, hts⟩ (c_C_put l hst D q cA SA x1 x2 z s.heap.size _ _ h) (cwV 2 hts gs_L_35 rfl rfl rfl (by decide +kernel) ⟨Nat.le_of_ble_eq_true rfl, Nat.le_of_ble_eq_true rfl⟩) (wk_preVX hK hV hA hXL.1 0 0 rfl rfl [.int x1, .int x2]) rfl rfl hl.1 rfl (lv_room (Nat.le_of_ble_eq_true rfl)) kd_method_8_code_5 ⟨Nat.le_of_ble_eq_true rfl, Nat.le_of_ble_eq_true rfl⟩) hV hA ?_ ?_
  · intro E ce q9 u H1 locs1 hT hV1 hce hcv hcl
    rcases hT with ⟨rfl, hk⟩ | ⟨rfl, hk⟩
    · refine vx_catch (name := "java/lang/IllegalStateException") hown [] ⟨0, 9, 12, 13⟩ [⟨0, 9, 16, 38⟩] (htab.trans rfl) (fun z hz => nomatch hz) (by decide) (show (13 : Nat) ≠ 0 by decide) (hts _ hw_200) (va_tabs (u := s) rfl rfl (hXL.1.2.2.1 (Cond.castable "java/lang/IllegalStateException" "java/lang/IllegalStateException") (by decide +kernel))) hce hcv hcl ?_
      refine lv_astore hx hb kd_method_8_code_12 hl (by decide) rfl (fun ls hl => ?_)
      refine lv_iconst (v := 1) hx hb kd_method_8_code_14 (by decide) ?_
      exact hret 1 u H1 locs1 15 ls hk hV1 kd_method_8_code_15
    · refine vx_catch (name := "java/util/NoSuchElementException") hown [⟨0, 9, 12, 13⟩] ⟨0, 9, 16, 38⟩ [] (htab.trans rfl) (fun z hz => by rw [List.mem_singleton.mp hz]; exact Or.inr ⟨(show (13 : Nat) ≠ 0 by decide), "java/lang/IllegalStateException", (hts _ hw_200), hXL.2.2.2.2⟩) (by decide) (show (38 : Nat) ≠ 0 by decide) (hts _ hw_469) (va_tabs (u := s) rfl rfl (hXL.1.2.2.1 (Cond.castable "java/util/NoSuchElementException" "java/util/NoSuchElementException") (by decide +kernel))) hce hcv hcl ?_
      refine lv_astore hx hb kd_method_8_code_16 hl (by decide) rfl (fun ls hl => ?_)
      refine lv_iconst (v := 2) hx hb kd_method_8_code_18 (by decide) ?_
      exact hret 2 u H1 locs1 19 ls hk hV1 kd_method_8_code_19
  · intro r u H1 locs1 hk hV1
    refine wk_last hx hb hK hV1 51 46 10 rfl rfl (ks_51 q cA u) (show vp_in 0 1 by unfold vp_in; decide) kd_method_8_code_8 (fun H2 locs2 hV2 => ?_)
    refine lv_goto (tgt := 20) hx hb kd_method_8_code_9 (by decide) ?_
    refine lv_iconst (v := 0) hx hb kd_method_8_code_20 (by decide) ?_
    exact hret 0 _ H2 locs2 21 ls (hk _ rfl) hV2 kd_method_8_code_21
set_option maxHeartbeats 4000000 in
set_option maxRecDepth 100000 in
theorem c_L_expression (l : Launch) (hst : l.stackTraces = false) (D : va_G) (q : Nat → Nat) (cA : Nat → ClassId) (SA : Nat → Nat) (x1 : Int32) (x2 : Int32) (x3 : Int32) (z : Sta) (sz : Nat) (K : Int32 → Sta → Prop) (h : wp_L_expression x1 x2 x3 z K) : Met l ke_L_expression (kc_L_expression :: lw_g) { frames := 7, cells := 1, slots := 6, locals := 106 } (wk_PcL D q cA SA [.ref (q 0), .int x1, .int x2, .int x3, .ref (q 51)] z sz) (va_Qi K (wk_B D q cA (va_A (wW q cA z) sz)) (va_A (wW q cA z) sz)) 1 6 (va_A (wW q cA z) sz) := by
  refine va_MetW (cc := method_9_code) (maxL := 6) (ret := (some .int)) (hh := [(0, 12, 15, 38)]) (by decide) rfl ?_
  intro p e s m args below meth c s₁ B hml hv
  obtain ⟨rfl, hsz, hP, hK, hD0, hXL⟩ := hv
  have hx := B.exec
  have hb := B.bytes
  have hr := B.returns
  have hlocks := B.notSynchronized
  have hts0 := atoms_spec (ws := kc_L_expression :: lw_g) B.pre
  have htab := vx_table (x := ke_L_expression) B (hts0 _ List.mem_cons_self)
  have hts : ∀ w ∈ lw_g, w.before ([.ref (q 0), .int x1, .int x2, .int x3, .ref (q 51)] : List Value).toArray s = true := fun w hw => hts0 w (List.mem_cons_of_mem _ hw)
  have hown : s.vm.findClass kr_L = some m.cls := findClass_of_methodNamed B.named
  subst hsz
  have hD := hD0.self (sz := s.heap.size)
  generalize hAe : va_A (wW q cA z) s.heap.size = A at hD hXL ⊢
  have hA : ∀ x : Nat, s.heap.size ≤ x → A x := fun x hx => by rw [← hAe]; exact Or.inr hx
  have hl := lv_entry ([.ref (q 0), .int x1, .int x2, .int x3, .ref (q 51)]) (n := 6) (Nat.le_of_ble_eq_true rfl)
  rw [lg_entry_eq]
  generalize (lg_sl ([.ref (q 0), .int x1, .int x2, .int x3, .ref (q 51)]) ++ List.replicate (6 - (lg_sl ([.ref (q 0), .int x1, .int x2, .int x3, .ref (q 51)])).length) Slot.unset).toArray = ls at hl ⊢
  have hl : lv_has ls 6 [(0, .ref (q 0)), (1, .int x1), (2, .int x2), (3, .int x3), (4, .ref (q 51))] := hl
  have hV : wk_S D q cA A s.heap z s.heap [] := ⟨hP, hD, va_S.rf⟩
  have hret : ∀ (r : Int32) (u : Sta) (H : Heap) (locs : List Loc) (pc : Nat) (ls : Array Slot), K r u → wk_S D q cA A s.heap u H locs → decode method_9_code pc = .ok (.ireturn, 1) → W p l e (headSpec (kc_L_expression :: lw_g) { frames := 7, cells := 1, slots := 6, locals := 106 }).room s m ([.ref (q 0), .int x1, .int x2, .int x3, .ref (q 51)] : List Value).toArray below meth c H locs 1 6 (MQ below (va_Qi K (wk_B D q cA A) A) ([.ref (q 0), .int x1, .int x2, .int x3, .ref (q 51)] : List Value).toArray s 1 6 A) (F0 m pc ls [.int r]) := fun r u H locs pc ls hk hV hd => W.iret hx hb hr (fun t ht hW => ⟨⟨r, u, rfl, hk, by rw [ht]; exact hV.1, va_K.moved hW.alike hK, hV.2.1⟩, hV.2.2.F ht⟩) hV.2.2.2.2 hd
  refine lv_aload hx hb kd_method_9_code_0 (lv_at hl 4 rfl) ?_
  refine lv_iconst (v := 0) hx hb kd_method_9_code_2 (by decide) ?_
  refine lv_aload_n hx hb kd_method_9_code_3 rfl (lv_at hl 0 rfl) ?_
  refine lv_iload_n hx hb kd_method_9_code_4 rfl (lv_at hl 1 rfl) ?_
  refine lv_iload_n hx hb kd_method_9_code_5 rfl (lv_at hl 2 rfl) ?_
  refine lv_iload_n hx hb kd_method_9_code_6 rfl (lv_at hl 3 rfl) ?_
  refine wk_xcalli (vx_runV (As := [.int x1, .int x2, .int x3]) (rest := [.int 0, .ref (q 51)]) ⟨hx, hb, hml, hown, hts⟩ (c_C_expression l hst D q cA SA x1 x2 x3 z s.heap.size _ _ h) (cwV 3 hts gs_L_40 rfl rfl rfl (by decide +kernel) ⟨Nat.le_of_ble_eq_true rfl, Nat.le_of_ble_eq_true rfl⟩) (wk_preVX hK hV hA hXL.1 0 0 rfl rfl [.int x1, .int x2, .int x3]) rfl rfl hl.1 rfl (lv_room (Nat.le_of_ble_eq_true rfl)) kd_method_9_code_7 ⟨Nat.le_of_ble_eq_true rfl, Nat.le_of_ble_eq_true rfl⟩) hV hA ?_ ?_
  · intro E ce q9 u H1 locs1 hT hV1 hce hcv hcl
    obtain ⟨rfl, hk⟩ := hT
    refine vx_catch (name := "java/util/NoSuchElementException") hown [] ⟨0, 12, 15, 38⟩ [] (htab.trans rfl) (fun z hz => nomatch hz) (by decide) (show (38 : Nat) ≠ 0 by decide) (hts _ hw_469) (va_tabs (u := s) rfl rfl (hXL.1.2.2.1 (Cond.castable "java/util/NoSuchElementException" "java/util/NoSuchElementException") (by decide +kernel))) hce hcv hcl ?_
    refine lv_astore hx hb kd_method_9_code_15 hl (by decide) rfl (fun ls hl => ?_)
    refine lv_iconst (v := 1) hx hb kd_method_9_code_17 (by decide) ?_
    exact hret 1 u H1 locs1 18 ls hk hV1 kd_method_9_code_18
  · intro r u H1 locs1 hk hV1
    refine lv_i2l hx hb kd_method_9_code_10 rfl ?_
    refine wk_last hx hb hK hV1 51 46 10 rfl rfl (ks_51 q cA u) (show vp_in 0 1 by unfold vp_in; decide) kd_method_9_code_11 (fun H2 locs2 hV2 => ?_)
    refine lv_goto (tgt := 19) hx hb kd_method_9_code_12 (by decide) ?_
    refine lv_iconst (v := 0) hx hb kd_method_9_code_19 (by decide) ?_
    exact hret 0 _ H2 locs2 20 ls (hk _ rfl) hV2 kd_method_9_code_20
set_option maxHeartbeats 4000000 in
set_option maxRecDepth 100000 in
theorem c_L_run (l : Launch) (hst : l.stackTraces = false) (D : va_G) (q : Nat → Nat) (cA : Nat → ClassId) (SA : Nat → Nat) (x1 : Int32) (x2 : Int32) (x3 : Int32) (x4 : Int32) (z : Sta) (sz : Nat) (K : Int32 → Sta → Prop) (h : wp_L_run x1 x2 x3 x4 z K) : Met l ke_L_run (kc_L_run :: lw_g) { frames := 7, cells := 1, slots := 6, locals := 122 } (wk_PcL D q cA SA [.ref (q 0), .int x1, .int x2, .int x3, .int x4, .ref (q 51)] z sz) (va_Qi K (wk_B D q cA (va_A (wW q cA z) sz)) (va_A (wW q cA z) sz)) 1 6 (va_A (wW q cA z) sz) := by
  refine va_MetW (cc := method_10_code) (maxL := 7) (ret := (some .int)) (hh := [(0, 14, 17, 13)]) (by decide) rfl ?_
  intro p e s m args below meth c s₁ B hml hv
  obtain ⟨rfl, hsz, hP, hK, hD0, hXL⟩ := hv
  have hx := B.exec
  have hb := B.bytes
  have hr := B.returns
  have hlocks := B.notSynchronized
  have hts0 := atoms_spec (ws := kc_L_run :: lw_g) B.pre
  have htab := vx_table (x := ke_L_run) B (hts0 _ List.mem_cons_self)
  have hts : ∀ w ∈ lw_g, w.before ([.ref (q 0), .int x1, .int x2, .int x3, .int x4, .ref (q 51)] : List Value).toArray s = true := fun w hw => hts0 w (List.mem_cons_of_mem _ hw)
  have hown : s.vm.findClass kr_L = some m.cls := findClass_of_methodNamed B.named
  subst hsz
  have hD := hD0.self (sz := s.heap.size)
  generalize hAe : va_A (wW q cA z) s.heap.size = A at hD hXL ⊢
  have hA : ∀ x : Nat, s.heap.size ≤ x → A x := fun x hx => by rw [← hAe]; exact Or.inr hx
  have hl := lv_entry ([.ref (q 0), .int x1, .int x2, .int x3, .int x4, .ref (q 51)]) (n := 7) (Nat.le_of_ble_eq_true rfl)
  rw [lg_entry_eq]
  generalize (lg_sl ([.ref (q 0), .int x1, .int x2, .int x3, .int x4, .ref (q 51)]) ++ List.replicate (7 - (lg_sl ([.ref (q 0), .int x1, .int x2, .int x3, .int x4, .ref (q 51)])).length) Slot.unset).toArray = ls at hl ⊢
  have hl : lv_has ls 7 [(0, .ref (q 0)), (1, .int x1), (2, .int x2), (3, .int x3), (4, .int x4), (5, .ref (q 51))] := hl
  have hV : wk_S D q cA A s.heap z s.heap [] := ⟨hP, hD, va_S.rf⟩
  have hret : ∀ (r : Int32) (u : Sta) (H : Heap) (locs : List Loc) (pc : Nat) (ls : Array Slot), K r u → wk_S D q cA A s.heap u H locs → decode method_10_code pc = .ok (.ireturn, 1) → W p l e (headSpec (kc_L_run :: lw_g) { frames := 7, cells := 1, slots := 6, locals := 122 }).room s m ([.ref (q 0), .int x1, .int x2, .int x3, .int x4, .ref (q 51)] : List Value).toArray below meth c H locs 1 6 (MQ below (va_Qi K (wk_B D q cA A) A) ([.ref (q 0), .int x1, .int x2, .int x3, .int x4, .ref (q 51)] : List Value).toArray s 1 6 A) (F0 m pc ls [.int r]) := fun r u H locs pc ls hk hV hd => W.iret hx hb hr (fun t ht hW => ⟨⟨r, u, rfl, hk, by rw [ht]; exact hV.1, va_K.moved hW.alike hK, hV.2.1⟩, hV.2.2.F ht⟩) hV.2.2.2.2 hd
  refine lv_aload hx hb kd_method_10_code_0 (lv_at hl 5 rfl) ?_
  refine lv_iconst (v := 0) hx hb kd_method_10_code_2 (by decide) ?_
  refine lv_aload_n hx hb kd_method_10_code_3 rfl (lv_at hl 0 rfl) ?_
  refine lv_iload_n hx hb kd_method_10_code_4 rfl (lv_at hl 1 rfl) ?_
  refine lv_iload_n hx hb kd_method_10_code_5 rfl (lv_at hl 2 rfl) ?_
  refine lv_iload_n hx hb kd_method_10_code_6 rfl (lv_at hl 3 rfl) ?_
  refine lv_iload hx hb kd_method_10_code_7 (lv_at hl 4 rfl) ?_
  refine wk_xcalli (vx_runV (As := [.int x1, .int x2, .int x3, .int x4]) (rest := [.int 0, .ref (q 51)]) ⟨hx, hb, hml, hown, hts⟩ (c_C_run l hst D q cA SA x1 x2 x3 x4 z s.heap.size _ _ h) (cwV 4 hts gs_L_44 rfl rfl rfl (by decide +kernel) ⟨Nat.le_of_ble_eq_true rfl, Nat.le_of_ble_eq_true rfl⟩) (wk_preVX hK hV hA hXL.1 0 0 rfl rfl [.int x1, .int x2, .int x3, .int x4]) rfl rfl hl.1 rfl (lv_room (Nat.le_of_ble_eq_true rfl)) kd_method_10_code_9 ⟨Nat.le_of_ble_eq_true rfl, Nat.le_of_ble_eq_true rfl⟩) hV hA ?_ ?_
  · intro E ce q9 u H1 locs1 hT hV1 hce hcv hcl
    obtain ⟨rfl, hk⟩ := hT
    refine vx_catch (name := "java/lang/IllegalStateException") hown [] ⟨0, 14, 17, 13⟩ [] (htab.trans rfl) (fun z hz => nomatch hz) (by decide) (show (13 : Nat) ≠ 0 by decide) (hts _ hw_200) (va_tabs (u := s) rfl rfl (hXL.1.2.2.1 (Cond.castable "java/lang/IllegalStateException" "java/lang/IllegalStateException") (by decide +kernel))) hce hcv hcl ?_
    refine lv_astore hx hb kd_method_10_code_17 hl (by decide) rfl (fun ls hl => ?_)
    refine lv_iconst (v := 1) hx hb kd_method_10_code_19 (by decide) ?_
    exact hret 1 u H1 locs1 20 ls hk hV1 kd_method_10_code_20
  · intro r u H1 locs1 hk hV1
    refine lv_i2l hx hb kd_method_10_code_12 rfl ?_
    refine wk_last hx hb hK hV1 51 46 10 rfl rfl (ks_51 q cA u) (show vp_in 0 1 by unfold vp_in; decide) kd_method_10_code_13 (fun H2 locs2 hV2 => ?_)
    refine lv_goto (tgt := 21) hx hb kd_method_10_code_14 (by decide) ?_
    refine lv_iconst (v := 0) hx hb kd_method_10_code_21 (by decide) ?_
    exact hret 0 _ H2 locs2 22 ls (hk _ rfl) hV2 kd_method_10_code_22
set_option maxHeartbeats 4000000 in
set_option maxRecDepth 100000 in
theorem c_L_out (l : Launch) (hst : l.stackTraces = false) (D : va_G) (q : Nat → Nat) (cA : Nat → ClassId) (SA : Nat → Nat) (x1 : Int32) (z : Sta) (sz : Nat) (K : Int32 → Sta → Prop) (h : wp_L_out x1 z K) : Met l ke_L_out (kc_L_out :: lw_g) { frames := 7, cells := 1, slots := 6, locals := 103 } (wk_PcL D q cA SA [.ref (q 0), .int x1, .ref (q 51)] z sz) (va_Qi K (wk_B D q cA (va_A (wW q cA z) sz)) (va_A (wW q cA z) sz)) 1 6 (va_A (wW q cA z) sz) := by
  refine va_MetW (cc := method_11_code) (maxL := 4) (ret := (some .int)) (hh := [(0, 9, 12, 33)]) (by decide) rfl ?_
  intro p e s m args below meth c s₁ B hml hv
  obtain ⟨rfl, hsz, hP, hK, hD0, hXL⟩ := hv
  have hx := B.exec
  have hb := B.bytes
  have hr := B.returns
  have hlocks := B.notSynchronized
  have hts0 := atoms_spec (ws := kc_L_out :: lw_g) B.pre
  have htab := vx_table (x := ke_L_out) B (hts0 _ List.mem_cons_self)
  have hts : ∀ w ∈ lw_g, w.before ([.ref (q 0), .int x1, .ref (q 51)] : List Value).toArray s = true := fun w hw => hts0 w (List.mem_cons_of_mem _ hw)
  have hown : s.vm.findClass kr_L = some m.cls := findClass_of_methodNamed B.named
  subst hsz
  have hD := hD0.self (sz := s.heap.size)
  generalize hAe : va_A (wW q cA z) s.heap.size = A at hD hXL ⊢
  have hA : ∀ x : Nat, s.heap.size ≤ x → A x := fun x hx => by rw [← hAe]; exact Or.inr hx
  have hl := lv_entry ([.ref (q 0), .int x1, .ref (q 51)]) (n := 4) (Nat.le_of_ble_eq_true rfl)
  rw [lg_entry_eq]
  generalize (lg_sl ([.ref (q 0), .int x1, .ref (q 51)]) ++ List.replicate (4 - (lg_sl ([.ref (q 0), .int x1, .ref (q 51)])).length) Slot.unset).toArray = ls at hl ⊢
  have hl : lv_has ls 4 [(0, .ref (q 0)), (1, .int x1), (2, .ref (q 51))] := hl
  have hV : wk_S D q cA A s.heap z s.heap [] := ⟨hP, hD, va_S.rf⟩
  have hret : ∀ (r : Int32) (u : Sta) (H : Heap) (locs : List Loc) (pc : Nat) (ls : Array Slot), K r u → wk_S D q cA A s.heap u H locs → decode method_11_code pc = .ok (.ireturn, 1) → W p l e (headSpec (kc_L_out :: lw_g) { frames := 7, cells := 1, slots := 6, locals := 103 }).room s m ([.ref (q 0), .int x1, .ref (q 51)] : List Value).toArray below meth c H locs 1 6 (MQ below (va_Qi K (wk_B D q cA A) A) ([.ref (q 0), .int x1, .ref (q 51)] : List Value).toArray s 1 6 A) (F0 m pc ls [.int r]) := fun r u H locs pc ls hk hV hd => W.iret hx hb hr (fun t ht hW => ⟨⟨r, u, rfl, hk, by rw [ht]; exact hV.1, va_K.moved hW.alike hK, hV.2.1⟩, hV.2.2.F ht⟩) hV.2.2.2.2 hd
  refine lv_aload_n hx hb kd_method_11_code_0 rfl (lv_at hl 2 rfl) ?_
  refine lv_iconst (v := 0) hx hb kd_method_11_code_1 (by decide) ?_
  refine lv_aload_n hx hb kd_method_11_code_2 rfl (lv_at hl 0 rfl) ?_
  refine lv_iload_n hx hb kd_method_11_code_3 rfl (lv_at hl 1 rfl) ?_
  refine wk_xcalli (vx_runV (As := [.int x1]) (rest := [.int 0, .ref (q 51)]) ⟨hx, hb, hml, hown, hts⟩ (c_C_out l hst D q cA SA x1 z s.heap.size _ _ h) (cwV 1 hts gs_L_48 rfl rfl rfl (by decide +kernel) ⟨Nat.le_of_ble_eq_true rfl, Nat.le_of_ble_eq_true rfl⟩) (wk_preVX hK hV hA hXL.1 0 0 rfl rfl [.int x1]) rfl rfl hl.1 rfl (lv_room (Nat.le_of_ble_eq_true rfl)) kd_method_11_code_4 ⟨Nat.le_of_ble_eq_true rfl, Nat.le_of_ble_eq_true rfl⟩) hV hA ?_ ?_
  · intro E ce q9 u H1 locs1 hT hV1 hce hcv hcl
    obtain ⟨rfl, hk⟩ := hT
    refine vx_catch (name := "java/lang/IndexOutOfBoundsException") hown [] ⟨0, 9, 12, 33⟩ [] (htab.trans rfl) (fun z hz => nomatch hz) (by decide) (show (33 : Nat) ≠ 0 by decide) (hts _ hw_440) (va_tabs (u := s) rfl rfl (hXL.1.2.2.1 (Cond.castable "java/lang/IndexOutOfBoundsException" "java/lang/IndexOutOfBoundsException") (by decide +kernel))) hce hcv hcl ?_
    refine lv_astore_n hx hb kd_method_11_code_12 rfl hl (by decide) rfl (fun ls hl => ?_)
    refine lv_iconst (v := 1) hx hb kd_method_11_code_13 (by decide) ?_
    exact hret 1 u H1 locs1 14 ls hk hV1 kd_method_11_code_14
  · intro r u H1 locs1 hk hV1
    refine lv_i2l hx hb kd_method_11_code_7 rfl ?_
    refine wk_last hx hb hK hV1 51 46 10 rfl rfl (ks_51 q cA u) (show vp_in 0 1 by unfold vp_in; decide) kd_method_11_code_8 (fun H2 locs2 hV2 => ?_)
    refine lv_goto (tgt := 15) hx hb kd_method_11_code_9 (by decide) ?_
    refine lv_iconst (v := 0) hx hb kd_method_11_code_15 (by decide) ?_
    exact hret 0 _ H2 locs2 16 ls (hk _ rfl) hV2 kd_method_11_code_16
set_option maxHeartbeats 4000000 in
set_option maxRecDepth 100000 in
theorem c_L_variable (l : Launch) (hst : l.stackTraces = false) (D : va_G) (q : Nat → Nat) (cA : Nat → ClassId) (SA : Nat → Nat) (x1 : Int32) (z : Sta) (sz : Nat) (K : Int32 → Sta → Prop) (h : wp_L_variable x1 z K) : Met l ke_L_variable (kc_L_variable :: lw_g) { frames := 7, cells := 1, slots := 6, locals := 103 } (wk_PcL D q cA SA [.ref (q 0), .int x1, .ref (q 51)] z sz) (va_Qi K (wk_B D q cA (va_A (wW q cA z) sz)) (va_A (wW q cA z) sz)) 1 6 (va_A (wW q cA z) sz) := by
  refine va_MetW (cc := method_12_code) (maxL := 4) (ret := (some .int)) (hh := [(0, 9, 12, 33)]) (by decide) rfl ?_
  intro p e s m args below meth c s₁ B hml hv
  obtain ⟨rfl, hsz, hP, hK, hD0, hXL⟩ := hv
  have hx := B.exec
  have hb := B.bytes
  have hr := B.returns
  have hlocks := B.notSynchronized
  have hts0 := atoms_spec (ws := kc_L_variable :: lw_g) B.pre
  have htab := vx_table (x := ke_L_variable) B (hts0 _ List.mem_cons_self)
  have hts : ∀ w ∈ lw_g, w.before ([.ref (q 0), .int x1, .ref (q 51)] : List Value).toArray s = true := fun w hw => hts0 w (List.mem_cons_of_mem _ hw)
  have hown : s.vm.findClass kr_L = some m.cls := findClass_of_methodNamed B.named
  subst hsz
  have hD := hD0.self (sz := s.heap.size)
  generalize hAe : va_A (wW q cA z) s.heap.size = A at hD hXL ⊢
  have hA : ∀ x : Nat, s.heap.size ≤ x → A x := fun x hx => by rw [← hAe]; exact Or.inr hx
  have hl := lv_entry ([.ref (q 0), .int x1, .ref (q 51)]) (n := 4) (Nat.le_of_ble_eq_true rfl)
  rw [lg_entry_eq]
  generalize (lg_sl ([.ref (q 0), .int x1, .ref (q 51)]) ++ List.replicate (4 - (lg_sl ([.ref (q 0), .int x1, .ref (q 51)])).length) Slot.unset).toArray = ls at hl ⊢
  have hl : lv_has ls 4 [(0, .ref (q 0)), (1, .int x1), (2, .ref (q 51))] := hl
  have hV : wk_S D q cA A s.heap z s.heap [] := ⟨hP, hD, va_S.rf⟩
  have hret : ∀ (r : Int32) (u : Sta) (H : Heap) (locs : List Loc) (pc : Nat) (ls : Array Slot), K r u → wk_S D q cA A s.heap u H locs → decode method_12_code pc = .ok (.ireturn, 1) → W p l e (headSpec (kc_L_variable :: lw_g) { frames := 7, cells := 1, slots := 6, locals := 103 }).room s m ([.ref (q 0), .int x1, .ref (q 51)] : List Value).toArray below meth c H locs 1 6 (MQ below (va_Qi K (wk_B D q cA A) A) ([.ref (q 0), .int x1, .ref (q 51)] : List Value).toArray s 1 6 A) (F0 m pc ls [.int r]) := fun r u H locs pc ls hk hV hd => W.iret hx hb hr (fun t ht hW => ⟨⟨r, u, rfl, hk, by rw [ht]; exact hV.1, va_K.moved hW.alike hK, hV.2.1⟩, hV.2.2.F ht⟩) hV.2.2.2.2 hd
  refine lv_aload_n hx hb kd_method_12_code_0 rfl (lv_at hl 2 rfl) ?_
  refine lv_iconst (v := 0) hx hb kd_method_12_code_1 (by decide) ?_
  refine lv_aload_n hx hb kd_method_12_code_2 rfl (lv_at hl 0 rfl) ?_
  refine lv_iload_n hx hb kd_method_12_code_3 rfl (lv_at hl 1 rfl) ?_
  refine wk_xcalli (vx_runV (As := [.int x1]) (rest := [.int 0, .ref (q 51)]) ⟨hx, hb, hml, hown, hts⟩ (c_C_variable l hst D q cA SA x1 z s.heap.size _ _ h) (cwV 1 hts gs_L_52 rfl rfl rfl (by decide +kernel) ⟨Nat.le_of_ble_eq_true rfl, Nat.le_of_ble_eq_true rfl⟩) (wk_preVX hK hV hA hXL.1 0 0 rfl rfl [.int x1]) rfl rfl hl.1 rfl (lv_room (Nat.le_of_ble_eq_true rfl)) kd_method_12_code_4 ⟨Nat.le_of_ble_eq_true rfl, Nat.le_of_ble_eq_true rfl⟩) hV hA ?_ ?_
  · intro E ce q9 u H1 locs1 hT hV1 hce hcv hcl
    obtain ⟨rfl, hk⟩ := hT
    refine vx_catch (name := "java/lang/IndexOutOfBoundsException") hown [] ⟨0, 9, 12, 33⟩ [] (htab.trans rfl) (fun z hz => nomatch hz) (by decide) (show (33 : Nat) ≠ 0 by decide) (hts _ hw_440) (va_tabs (u := s) rfl rfl (hXL.1.2.2.1 (Cond.castable "java/lang/IndexOutOfBoundsException" "java/lang/IndexOutOfBoundsException") (by decide +kernel))) hce hcv hcl ?_
    refine lv_astore_n hx hb kd_method_12_code_12 rfl hl (by decide) rfl (fun ls hl => ?_)
    refine lv_iconst (v := 1) hx hb kd_method_12_code_13 (by decide) ?_
    exact hret 1 u H1 locs1 14 ls hk hV1 kd_method_12_code_14
  · intro r u H1 locs1 hk hV1
    refine lv_i2l hx hb kd_method_12_code_7 rfl ?_
    refine wk_last hx hb hK hV1 51 46 10 rfl rfl (ks_51 q cA u) (show vp_in 0 1 by unfold vp_in; decide) kd_method_12_code_8 (fun H2 locs2 hV2 => ?_)
    refine lv_goto (tgt := 15) hx hb kd_method_12_code_9 (by decide) ?_
    refine lv_iconst (v := 0) hx hb kd_method_12_code_15 (by decide) ?_
    exact hret 0 _ H2 locs2 16 ls (hk _ rfl) hV2 kd_method_12_code_16
set_option maxHeartbeats 4000000 in
set_option maxRecDepth 100000 in
theorem c_L_count (l : Launch) (hst : l.stackTraces = false) (D : va_G) (q : Nat → Nat) (cA : Nat → ClassId) (SA : Nat → Nat) (x1 : Int32) (z : Sta) (sz : Nat) (K : Int32 → Sta → Prop) (h : wp_L_count x1 z K) : Met l ke_L_count (kc_L_count :: lw_g) { frames := 7, cells := 1, slots := 6, locals := 103 } (wk_PcL D q cA SA [.ref (q 0), .int x1, .ref (q 51)] z sz) (va_Qi K (wk_B D q cA (va_A (wW q cA z) sz)) (va_A (wW q cA z) sz)) 1 6 (va_A (wW q cA z) sz) := by
  refine va_MetW (cc := method_13_code) (maxL := 4) (ret := (some .int)) (hh := [(0, 9, 12, 33)]) (by decide) rfl ?_
  intro p e s m args below meth c s₁ B hml hv
  obtain ⟨rfl, hsz, hP, hK, hD0, hXL⟩ := hv
  have hx := B.exec
  have hb := B.bytes
  have hr := B.returns
  have hlocks := B.notSynchronized
  have hts0 := atoms_spec (ws := kc_L_count :: lw_g) B.pre
  have htab := vx_table (x := ke_L_count) B (hts0 _ List.mem_cons_self)
  have hts : ∀ w ∈ lw_g, w.before ([.ref (q 0), .int x1, .ref (q 51)] : List Value).toArray s = true := fun w hw => hts0 w (List.mem_cons_of_mem _ hw)
  have hown : s.vm.findClass kr_L = some m.cls := findClass_of_methodNamed B.named
  subst hsz
  have hD := hD0.self (sz := s.heap.size)
  generalize hAe : va_A (wW q cA z) s.heap.size = A at hD hXL ⊢
  have hA : ∀ x : Nat, s.heap.size ≤ x → A x := fun x hx => by rw [← hAe]; exact Or.inr hx
  have hl := lv_entry ([.ref (q 0), .int x1, .ref (q 51)]) (n := 4) (Nat.le_of_ble_eq_true rfl)
  rw [lg_entry_eq]
  generalize (lg_sl ([.ref (q 0), .int x1, .ref (q 51)]) ++ List.replicate (4 - (lg_sl ([.ref (q 0), .int x1, .ref (q 51)])).length) Slot.unset).toArray = ls at hl ⊢
  have hl : lv_has ls 4 [(0, .ref (q 0)), (1, .int x1), (2, .ref (q 51))] := hl
  have hV : wk_S D q cA A s.heap z s.heap [] := ⟨hP, hD, va_S.rf⟩
  have hret : ∀ (r : Int32) (u : Sta) (H : Heap) (locs : List Loc) (pc : Nat) (ls : Array Slot), K r u → wk_S D q cA A s.heap u H locs → decode method_13_code pc = .ok (.ireturn, 1) → W p l e (headSpec (kc_L_count :: lw_g) { frames := 7, cells := 1, slots := 6, locals := 103 }).room s m ([.ref (q 0), .int x1, .ref (q 51)] : List Value).toArray below meth c H locs 1 6 (MQ below (va_Qi K (wk_B D q cA A) A) ([.ref (q 0), .int x1, .ref (q 51)] : List Value).toArray s 1 6 A) (F0 m pc ls [.int r]) := fun r u H locs pc ls hk hV hd => W.iret hx hb hr (fun t ht hW => ⟨⟨r, u, rfl, hk, by rw [ht]; exact hV.1, va_K.moved hW.alike hK, hV.2.1⟩, hV.2.2.F ht⟩) hV.2.2.2.2 hd
  refine lv_aload_n hx hb kd_method_13_code_0 rfl (lv_at hl 2 rfl) ?_
  refine lv_iconst (v := 0) hx hb kd_method_13_code_1 (by decide) ?_
  refine lv_aload_n hx hb kd_method_13_code_2 rfl (lv_at hl 0 rfl) ?_
  refine lv_iload_n hx hb kd_method_13_code_3 rfl (lv_at hl 1 rfl) ?_
  refine wk_xcalli (vx_runV (As := [.int x1]) (rest := [.int 0, .ref (q 51)]) ⟨hx, hb, hml, hown, hts⟩ (c_C_count l hst D q cA SA x1 z s.heap.size _ _ h) (cwV 1 hts gs_L_55 rfl rfl rfl (by decide +kernel) ⟨Nat.le_of_ble_eq_true rfl, Nat.le_of_ble_eq_true rfl⟩) (wk_preVX hK hV hA hXL.1 0 0 rfl rfl [.int x1]) rfl rfl hl.1 rfl (lv_room (Nat.le_of_ble_eq_true rfl)) kd_method_13_code_4 ⟨Nat.le_of_ble_eq_true rfl, Nat.le_of_ble_eq_true rfl⟩) hV hA ?_ ?_
  · intro E ce q9 u H1 locs1 hT hV1 hce hcv hcl
    obtain ⟨rfl, hk⟩ := hT
    refine vx_catch (name := "java/lang/IndexOutOfBoundsException") hown [] ⟨0, 9, 12, 33⟩ [] (htab.trans rfl) (fun z hz => nomatch hz) (by decide) (show (33 : Nat) ≠ 0 by decide) (hts _ hw_440) (va_tabs (u := s) rfl rfl (hXL.1.2.2.1 (Cond.castable "java/lang/IndexOutOfBoundsException" "java/lang/IndexOutOfBoundsException") (by decide +kernel))) hce hcv hcl ?_
    refine lv_astore_n hx hb kd_method_13_code_12 rfl hl (by decide) rfl (fun ls hl => ?_)
    refine lv_iconst (v := 1) hx hb kd_method_13_code_13 (by decide) ?_
    exact hret 1 u H1 locs1 14 ls hk hV1 kd_method_13_code_14
  · intro r u H1 locs1 hk hV1
    refine lv_i2l hx hb kd_method_13_code_7 rfl ?_
    refine wk_last hx hb hK hV1 51 46 10 rfl rfl (ks_51 q cA u) (show vp_in 0 1 by unfold vp_in; decide) kd_method_13_code_8 (fun H2 locs2 hV2 => ?_)
    refine lv_goto (tgt := 15) hx hb kd_method_13_code_9 (by decide) ?_
    refine lv_iconst (v := 0) hx hb kd_method_13_code_15 (by decide) ?_
    exact hret 0 _ H2 locs2 16 ls (hk _ rfl) hV2 kd_method_13_code_16
