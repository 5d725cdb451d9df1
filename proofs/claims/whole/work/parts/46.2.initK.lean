theorem kd_prog_2_method_1_code_0 : decode prog_2_method_1_code 0 = .ok (.aload_n 0, 1) := by decide +kernel
theorem kd_prog_2_method_1_code_1 : decode prog_2_method_1_code 1 = .ok (.invokespecial 3, 3) := by decide +kernel
theorem kd_prog_2_method_1_code_4 : decode prog_2_method_1_code 4 = .ok (.aload_n 0, 1) := by decide +kernel
theorem kd_prog_2_method_1_code_5 : decode prog_2_method_1_code 5 = .ok (.iconst 0, 1) := by decide +kernel
theorem kd_prog_2_method_1_code_6 : decode prog_2_method_1_code 6 = .ok (.putfield 9, 3) := by decide +kernel
theorem kd_prog_2_method_1_code_9 : decode prog_2_method_1_code 9 = .ok (.aload_n 0, 1) := by decide +kernel
theorem kd_prog_2_method_1_code_10 : decode prog_2_method_1_code 10 = .ok (.iconst 0, 1) := by decide +kernel
theorem kd_prog_2_method_1_code_11 : decode prog_2_method_1_code 11 = .ok (.putfield 15, 3) := by decide +kernel
theorem kd_prog_2_method_1_code_14 : decode prog_2_method_1_code 14 = .ok (.aload_n 0, 1) := by decide +kernel
theorem kd_prog_2_method_1_code_15 : decode prog_2_method_1_code 15 = .ok (.iconst 0, 1) := by decide +kernel
theorem kd_prog_2_method_1_code_16 : decode prog_2_method_1_code 16 = .ok (.putfield 18, 3) := by decide +kernel
theorem kd_prog_2_method_1_code_19 : decode prog_2_method_1_code 19 = .ok (.aload_n 0, 1) := by decide +kernel
theorem kd_prog_2_method_1_code_20 : decode prog_2_method_1_code 20 = .ok (.bipush 6, 2) := by decide +kernel
theorem kd_prog_2_method_1_code_22 : decode prog_2_method_1_code 22 = .ok (.newarray .int, 2) := by decide +kernel
theorem kd_prog_2_method_1_code_24 : decode prog_2_method_1_code 24 = .ok (.putfield 21, 3) := by decide +kernel
theorem kd_prog_2_method_1_code_27 : decode prog_2_method_1_code 27 = .ok (.aload_n 0, 1) := by decide +kernel
theorem kd_prog_2_method_1_code_28 : decode prog_2_method_1_code 28 = .ok (.bipush 24, 2) := by decide +kernel
theorem kd_prog_2_method_1_code_30 : decode prog_2_method_1_code 30 = .ok (.newarray .int, 2) := by decide +kernel
theorem kd_prog_2_method_1_code_32 : decode prog_2_method_1_code 32 = .ok (.putfield 25, 3) := by decide +kernel
theorem kd_prog_2_method_1_code_35 : decode prog_2_method_1_code 35 = .ok (.aload_n 0, 1) := by decide +kernel
theorem kd_prog_2_method_1_code_36 : decode prog_2_method_1_code 36 = .ok (.bipush 100, 2) := by decide +kernel
theorem kd_prog_2_method_1_code_38 : decode prog_2_method_1_code 38 = .ok (.newarray .int, 2) := by decide +kernel
theorem kd_prog_2_method_1_code_40 : decode prog_2_method_1_code 40 = .ok (.putfield 28, 3) := by decide +kernel
theorem kd_prog_2_method_1_code_43 : decode prog_2_method_1_code 43 = .ok (.aload_n 0, 1) := by decide +kernel
theorem kd_prog_2_method_1_code_44 : decode prog_2_method_1_code 44 = .ok (.bipush 24, 2) := by decide +kernel
theorem kd_prog_2_method_1_code_46 : decode prog_2_method_1_code 46 = .ok (.newarray .int, 2) := by decide +kernel
theorem kd_prog_2_method_1_code_48 : decode prog_2_method_1_code 48 = .ok (.putfield 31, 3) := by decide +kernel
theorem kd_prog_2_method_1_code_51 : decode prog_2_method_1_code 51 = .ok (.aload_n 0, 1) := by decide +kernel
theorem kd_prog_2_method_1_code_52 : decode prog_2_method_1_code 52 = .ok (.aload_n 1, 1) := by decide +kernel
theorem kd_prog_2_method_1_code_53 : decode prog_2_method_1_code 53 = .ok (.putfield 34, 3) := by decide +kernel
theorem kd_prog_2_method_1_code_56 : decode prog_2_method_1_code 56 = .ok (.aload_n 0, 1) := by decide +kernel
theorem kd_prog_2_method_1_code_57 : decode prog_2_method_1_code 57 = .ok (.aload_n 2, 1) := by decide +kernel
theorem kd_prog_2_method_1_code_58 : decode prog_2_method_1_code 58 = .ok (.putfield 38, 3) := by decide +kernel
theorem kd_prog_2_method_1_code_61 : decode prog_2_method_1_code 61 = .ok (.return_, 1) := by decide +kernel
def wE_K (h0 : Nat) (p1 : Nat) (p2 : Nat) (a : Nat → Nat) (cA : Nat → ClassId) : va_W := [(h0, .inr (3, [.int 0, .int 0, .int 0, .ref (a 0), .ref (a 1), .ref (a 2), .ref p1, .ref p2, .ref (a 3)])), ((a 0), .inl ((cA 0), 6, .inl (fun _ => 0))), ((a 1), .inl ((cA 1), 24, .inl (fun _ => 0))), ((a 2), .inl ((cA 2), 100, .inl (fun _ => 0))), ((a 3), .inl ((cA 3), 24, .inl (fun _ => 0)))]
def tE_K (cA : Nat → ClassId) : List (ClassId × FieldType) := [((cA 0), .int), ((cA 1), .int), ((cA 2), .int), ((cA 3), .int)]
set_option maxHeartbeats 8000000 in
set_option maxRecDepth 100000 in
theorem c_K_init (l : Launch) (D : va_G) (h0 : Nat) (p1 : Nat) (p2 : Nat) (sz : Nat) : Met l ke_K_init (kc_K_init :: lw_g) { frames := 1, cells := 4, slots := 154, locals := 12 } (va_Pc [.ref h0, .ref p1, .ref p2] (fun U => U.heap.size = sz ∧ va_P D wk_cl [(h0, .inr (3, [.int 0, .int 0, .int 0, .null, .null, .null, .null, .null, .null]))] U.heap ∧ va_K D wk_cl [] U ∧ va_D (fun _ => True) [(h0, .inr (3, [.int 0, .int 0, .int 0, .null, .null, .null, .null, .null, .null]))])) (va_Qv (fun _ : (Nat → Nat) × (Nat → ClassId) => True) (fun u t => va_P D wk_cl (wE_K h0 p1 p2 u.1 u.2) t.heap ∧ va_K D wk_cl (tE_K u.2) t ∧ va_D (va_A [(h0, .inr (3, [.int 0, .int 0, .int 0, .null, .null, .null, .null, .null, .null]))] sz) (wE_K h0 p1 p2 u.1 u.2)) (va_A [(h0, .inr (3, [.int 0, .int 0, .int 0, .null, .null, .null, .null, .null, .null]))] sz)) 4 154 (va_A [(h0, .inr (3, [.int 0, .int 0, .int 0, .null, .null, .null, .null, .null, .null]))] sz) := by
  refine Met.ofW (cc := prog_2_method_1_code) (maxL := 3) (ret := none) (by decide) rfl ?_
  intro p e s m args below meth c s₁ B hml hv
  obtain ⟨rfl, hsz, hP, hK, hD0⟩ := hv
  have hx := B.exec
  have hb := B.bytes
  have hr := B.returns
  have hlocks := B.notSynchronized
  have hts0 := atoms_spec (ws := kc_K_init :: lw_g) B.pre
  have hts : ∀ w ∈ lw_g, w.before ([.ref h0, .ref p1, .ref p2] : List Value).toArray s = true := fun w hw => hts0 w (List.mem_cons_of_mem _ hw)
  have hown : s.vm.findClass kr_K = some m.cls := findClass_of_methodNamed B.named
  have hin : meth.name = "<init>" := (name_of_methodNamed B.named B.method).1
  subst hsz
  have hD := hD0.self (sz := s.heap.size)
  generalize hAe : va_A [(h0, .inr (3, [.int 0, .int 0, .int 0, .null, .null, .null, .null, .null, .null]))] s.heap.size = A at hD ⊢
  have hA : ∀ x : Nat, s.heap.size ≤ x → A x := fun x hx => by rw [← hAe]; exact Or.inr hx
  have hS : va_S A s.heap s.heap [] := va_S.rf
  have hl := lv_entry ([.ref h0, .ref p1, .ref p2]) (n := 3) (Nat.le_of_ble_eq_true rfl)
  rw [lg_entry_eq]
  generalize (lg_sl ([.ref h0, .ref p1, .ref p2]) ++ List.replicate (3 - (lg_sl ([.ref h0, .ref p1, .ref p2])).length) Slot.unset).toArray = ls at hl ⊢
  have hl : lv_has ls 3 [(0, .ref h0), (1, .ref p1), (2, .ref p2)] := hl
  refine lv_aload_n hx hb kd_prog_2_method_1_code_0 rfl (lv_at hl 0 rfl) ?_
  refine W.objInit hx hb hown (hts _ hw_138) (hts _ hw_22) (hts _ hw_23) rfl (by rw [hml]; exact hl.1) rfl kd_prog_2_method_1_code_1 (Nat.le_of_ble_eq_true rfl) (Nat.le_of_ble_eq_true rfl) ?_
  refine W.eq (g2 := F0 m 4 ls []) rfl ?_
  refine lv_aload_n hx hb kd_prog_2_method_1_code_4 rfl (lv_at hl 0 rfl) ?_
  refine lv_iconst (v := 0) hx hb kd_prog_2_method_1_code_5 (by decide) ?_
  refine va_put (D := D) (ci := 3) (v := .int 0) (ty := .int) (C := kr_K) (T := kt_K) (N := kn_K) hx hb hts ki_K ky_K ko_K km_K hown hK hP hD hS 0 rfl rfl 0 (by decide) (hts _ hw_139) (fun _ h9 => h9) rfl (by decide +kernel) rfl rfl (Nat.le_of_ble_eq_true rfl) kd_prog_2_method_1_code_6 (fun H locs hP hD hS => ?_)
  have hP : va_P D wk_cl [(h0, .inr (3, [.int 0, .int 0, .int 0, .null, .null, .null, .null, .null, .null]))] H := hP
  have hD : va_D A [(h0, .inr (3, [.int 0, .int 0, .int 0, .null, .null, .null, .null, .null, .null]))] := hD
  refine lv_aload_n hx hb kd_prog_2_method_1_code_9 rfl (lv_at hl 0 rfl) ?_
  refine lv_iconst (v := 0) hx hb kd_prog_2_method_1_code_10 (by decide) ?_
  refine va_put (D := D) (ci := 3) (v := .int 0) (ty := .int) (C := kr_K) (T := kt_K) (N := kn_K) hx hb hts ki_K ky_K ko_K km_K hown hK hP hD hS 0 rfl rfl 1 (by decide) (hts _ hw_141) (fun _ h9 => h9) rfl (by decide +kernel) rfl rfl (Nat.le_of_ble_eq_true rfl) kd_prog_2_method_1_code_11 (fun H locs hP hD hS => ?_)
  have hP : va_P D wk_cl [(h0, .inr (3, [.int 0, .int 0, .int 0, .null, .null, .null, .null, .null, .null]))] H := hP
  have hD : va_D A [(h0, .inr (3, [.int 0, .int 0, .int 0, .null, .null, .null, .null, .null, .null]))] := hD
  refine lv_aload_n hx hb kd_prog_2_method_1_code_14 rfl (lv_at hl 0 rfl) ?_
  refine lv_iconst (v := 0) hx hb kd_prog_2_method_1_code_15 (by decide) ?_
  refine va_put (D := D) (ci := 3) (v := .int 0) (ty := .int) (C := kr_K) (T := kt_K) (N := kn_K) hx hb hts ki_K ky_K ko_K km_K hown hK hP hD hS 0 rfl rfl 2 (by decide) (hts _ hw_143) (fun _ h9 => h9) rfl (by decide +kernel) rfl rfl (Nat.le_of_ble_eq_true rfl) kd_prog_2_method_1_code_16 (fun H locs hP hD hS => ?_)
  have hP : va_P D wk_cl [(h0, .inr (3, [.int 0, .int 0, .int 0, .null, .null, .null, .null, .null, .null]))] H := hP
  have hD : va_D A [(h0, .inr (3, [.int 0, .int 0, .int 0, .null, .null, .null, .null, .null, .null]))] := hD
  refine lv_aload_n hx hb kd_prog_2_method_1_code_19 rfl (lv_at hl 0 rfl) ?_
  refine lv_bipush (v := 6) hx hb kd_prog_2_method_1_code_20 (by decide) ?_
  refine va_newa (atype := .int) (ty := .int) (N' := 6) (a0 := (6, .inl (fun _ => 0))) hx hb (hts _ hw_89) rfl hK hP hD hS hA (fun _ => rfl) (by decide) rfl (by decide) (Nat.le_of_ble_eq_true rfl) (Nat.le_of_ble_eq_true rfl) kd_prog_2_method_1_code_22 (fun q22 k22 H hK hP hD hS => ?_)
  have hP : va_P D wk_cl [(h0, .inr (3, [.int 0, .int 0, .int 0, .null, .null, .null, .null, .null, .null])), (q22, .inl (k22, 6, .inl (fun _ => 0)))] H := hP
  have hD : va_D A [(h0, .inr (3, [.int 0, .int 0, .int 0, .null, .null, .null, .null, .null, .null])), (q22, .inl (k22, 6, .inl (fun _ => 0)))] := hD
  have hK : va_K D wk_cl [(k22, .int)] s := hK
  refine W.widen (k := 1) (n := 6) (by omega) (by omega) ?_
  refine va_putF (D := D) (ci := 3) (v := .ref q22) (ty := (.array .int)) (C := kr_K) (T := kt_K) (N := kn_K) hx hb hts ki_K ky_K ko_K km_K hown hK hP hD hS 0 rfl rfl 3 (by decide) (hts _ hw_145) (fun _ h9 => h9) rfl hin rfl (by decide +kernel) rfl rfl (Nat.le_of_ble_eq_true rfl) kd_prog_2_method_1_code_24 (fun H locs hP hD hS => ?_)
  have hP : va_P D wk_cl [(h0, .inr (3, [.int 0, .int 0, .int 0, .ref q22, .null, .null, .null, .null, .null])), (q22, .inl (k22, 6, .inl (fun _ => 0)))] H := hP
  have hD : va_D A [(h0, .inr (3, [.int 0, .int 0, .int 0, .ref q22, .null, .null, .null, .null, .null])), (q22, .inl (k22, 6, .inl (fun _ => 0)))] := hD
  refine lv_aload_n hx hb kd_prog_2_method_1_code_27 rfl (lv_at hl 0 rfl) ?_
  refine lv_bipush (v := 24) hx hb kd_prog_2_method_1_code_28 (by decide) ?_
  refine va_newa (atype := .int) (ty := .int) (N' := 24) (a0 := (24, .inl (fun _ => 0))) hx hb (hts _ hw_89) rfl hK hP hD hS hA (fun _ => rfl) (by decide) rfl (by decide) (Nat.le_of_ble_eq_true rfl) (Nat.le_of_ble_eq_true rfl) kd_prog_2_method_1_code_30 (fun q30 k30 H hK hP hD hS => ?_)
  have hP : va_P D wk_cl [(h0, .inr (3, [.int 0, .int 0, .int 0, .ref q22, .null, .null, .null, .null, .null])), (q22, .inl (k22, 6, .inl (fun _ => 0))), (q30, .inl (k30, 24, .inl (fun _ => 0)))] H := hP
  have hD : va_D A [(h0, .inr (3, [.int 0, .int 0, .int 0, .ref q22, .null, .null, .null, .null, .null])), (q22, .inl (k22, 6, .inl (fun _ => 0))), (q30, .inl (k30, 24, .inl (fun _ => 0)))] := hD
  have hK : va_K D wk_cl [(k22, .int), (k30, .int)] s := hK
  refine W.widen (k := 2) (n := 30) (by omega) (by omega) ?_
  refine va_putF (D := D) (ci := 3) (v := .ref q30) (ty := (.array .int)) (C := kr_K) (T := kt_K) (N := kn_K) hx hb hts ki_K ky_K ko_K km_K hown hK hP hD hS 0 rfl rfl 4 (by decide) (hts _ hw_147) (fun _ h9 => h9) rfl hin rfl (by decide +kernel) rfl rfl (Nat.le_of_ble_eq_true rfl) kd_prog_2_method_1_code_32 (fun H locs hP hD hS => ?_)
  have hP : va_P D wk_cl [(h0, .inr (3, [.int 0, .int 0, .int 0, .ref q22, .ref q30, .null, .null, .null, .null])), (q22, .inl (k22, 6, .inl (fun _ => 0))), (q30, .inl (k30, 24, .inl (fun _ => 0)))] H := hP
  have hD : va_D A [(h0, .inr (3, [.int 0, .int 0, .int 0, .ref q22, .ref q30, .null, .null, .null, .null])), (q22, .inl (k22, 6, .inl (fun _ => 0))), (q30, .inl (k30, 24, .inl (fun _ => 0)))] := hD
  refine lv_aload_n hx hb kd_prog_2_method_1_code_35 rfl (lv_at hl 0 rfl) ?_
  refine lv_bipush (v := 100) hx hb kd_prog_2_method_1_code_36 (by decide) ?_
  refine va_newa (atype := .int) (ty := .int) (N' := 100) (a0 := (100, .inl (fun _ => 0))) hx hb (hts _ hw_89) rfl hK hP hD hS hA (fun _ => rfl) (by decide) rfl (by decide) (Nat.le_of_ble_eq_true rfl) (Nat.le_of_ble_eq_true rfl) kd_prog_2_method_1_code_38 (fun q38 k38 H hK hP hD hS => ?_)
  have hP : va_P D wk_cl [(h0, .inr (3, [.int 0, .int 0, .int 0, .ref q22, .ref q30, .null, .null, .null, .null])), (q22, .inl (k22, 6, .inl (fun _ => 0))), (q30, .inl (k30, 24, .inl (fun _ => 0))), (q38, .inl (k38, 100, .inl (fun _ => 0)))] H := hP
  have hD : va_D A [(h0, .inr (3, [.int 0, .int 0, .int 0, .ref q22, .ref q30, .null, .null, .null, .null])), (q22, .inl (k22, 6, .inl (fun _ => 0))), (q30, .inl (k30, 24, .inl (fun _ => 0))), (q38, .inl (k38, 100, .inl (fun _ => 0)))] := hD
  have hK : va_K D wk_cl [(k22, .int), (k30, .int), (k38, .int)] s := hK
  refine W.widen (k := 3) (n := 130) (by omega) (by omega) ?_
  refine va_putF (D := D) (ci := 3) (v := .ref q38) (ty := (.array .int)) (C := kr_K) (T := kt_K) (N := kn_K) hx hb hts ki_K ky_K ko_K km_K hown hK hP hD hS 0 rfl rfl 5 (by decide) (hts _ hw_149) (fun _ h9 => h9) rfl hin rfl (by decide +kernel) rfl rfl (Nat.le_of_ble_eq_true rfl) kd_prog_2_method_1_code_40 (fun H locs hP hD hS => ?_)
  have hP : va_P D wk_cl [(h0, .inr (3, [.int 0, .int 0, .int 0, .ref q22, .ref q30, .ref q38, .null, .null, .null])), (q22, .inl (k22, 6, .inl (fun _ => 0))), (q30, .inl (k30, 24, .inl (fun _ => 0))), (q38, .inl (k38, 100, .inl (fun _ => 0)))] H := hP
  have hD : va_D A [(h0, .inr (3, [.int 0, .int 0, .int 0, .ref q22, .ref q30, .ref q38, .null, .null, .null])), (q22, .inl (k22, 6, .inl (fun _ => 0))), (q30, .inl (k30, 24, .inl (fun _ => 0))), (q38, .inl (k38, 100, .inl (fun _ => 0)))] := hD
  refine lv_aload_n hx hb kd_prog_2_method_1_code_43 rfl (lv_at hl 0 rfl) ?_
  refine lv_bipush (v := 24) hx hb kd_prog_2_method_1_code_44 (by decide) ?_
  refine va_newa (atype := .int) (ty := .int) (N' := 24) (a0 := (24, .inl (fun _ => 0))) hx hb (hts _ hw_89) rfl hK hP hD hS hA (fun _ => rfl) (by decide) rfl (by decide) (Nat.le_of_ble_eq_true rfl) (Nat.le_of_ble_eq_true rfl) kd_prog_2_method_1_code_46 (fun q46 k46 H hK hP hD hS => ?_)
  have hP : va_P D wk_cl [(h0, .inr (3, [.int 0, .int 0, .int 0, .ref q22, .ref q30, .ref q38, .null, .null, .null])), (q22, .inl (k22, 6, .inl (fun _ => 0))), (q30, .inl (k30, 24, .inl (fun _ => 0))), (q38, .inl (k38, 100, .inl (fun _ => 0))), (q46, .inl (k46, 24, .inl (fun _ => 0)))] H := hP
  have hD : va_D A [(h0, .inr (3, [.int 0, .int 0, .int 0, .ref q22, .ref q30, .ref q38, .null, .null, .null])), (q22, .inl (k22, 6, .inl (fun _ => 0))), (q30, .inl (k30, 24, .inl (fun _ => 0))), (q38, .inl (k38, 100, .inl (fun _ => 0))), (q46, .inl (k46, 24, .inl (fun _ => 0)))] := hD
  have hK : va_K D wk_cl [(k22, .int), (k30, .int), (k38, .int), (k46, .int)] s := hK
  refine W.widen (k := 4) (n := 154) (by omega) (by omega) ?_
  refine va_putF (D := D) (ci := 3) (v := .ref q46) (ty := (.array .int)) (C := kr_K) (T := kt_K) (N := kn_K) hx hb hts ki_K ky_K ko_K km_K hown hK hP hD hS 0 rfl rfl 8 (by decide) (hts _ hw_153) (fun _ h9 => h9) rfl hin rfl (by decide +kernel) rfl rfl (Nat.le_of_ble_eq_true rfl) kd_prog_2_method_1_code_48 (fun H locs hP hD hS => ?_)
  have hP : va_P D wk_cl [(h0, .inr (3, [.int 0, .int 0, .int 0, .ref q22, .ref q30, .ref q38, .null, .null, .ref q46])), (q22, .inl (k22, 6, .inl (fun _ => 0))), (q30, .inl (k30, 24, .inl (fun _ => 0))), (q38, .inl (k38, 100, .inl (fun _ => 0))), (q46, .inl (k46, 24, .inl (fun _ => 0)))] H := hP
  have hD : va_D A [(h0, .inr (3, [.int 0, .int 0, .int 0, .ref q22, .ref q30, .ref q38, .null, .null, .ref q46])), (q22, .inl (k22, 6, .inl (fun _ => 0))), (q30, .inl (k30, 24, .inl (fun _ => 0))), (q38, .inl (k38, 100, .inl (fun _ => 0))), (q46, .inl (k46, 24, .inl (fun _ => 0)))] := hD
  refine lv_aload_n hx hb kd_prog_2_method_1_code_51 rfl (lv_at hl 0 rfl) ?_
  refine lv_aload_n hx hb kd_prog_2_method_1_code_52 rfl (lv_at hl 1 rfl) ?_
  refine va_putF (D := D) (ci := 3) (v := .ref p1) (ty := (.object "LazyMotion$Program")) (C := kr_K) (T := kt_K) (N := kn_K) hx hb hts ki_K ky_K ko_K km_K hown hK hP hD hS 0 rfl rfl 6 (by decide) (hts _ hw_151) (fun _ h9 => h9) rfl hin rfl (by decide +kernel) rfl rfl (Nat.le_of_ble_eq_true rfl) kd_prog_2_method_1_code_53 (fun H locs hP hD hS => ?_)
  have hP : va_P D wk_cl [(h0, .inr (3, [.int 0, .int 0, .int 0, .ref q22, .ref q30, .ref q38, .ref p1, .null, .ref q46])), (q22, .inl (k22, 6, .inl (fun _ => 0))), (q30, .inl (k30, 24, .inl (fun _ => 0))), (q38, .inl (k38, 100, .inl (fun _ => 0))), (q46, .inl (k46, 24, .inl (fun _ => 0)))] H := hP
  have hD : va_D A [(h0, .inr (3, [.int 0, .int 0, .int 0, .ref q22, .ref q30, .ref q38, .ref p1, .null, .ref q46])), (q22, .inl (k22, 6, .inl (fun _ => 0))), (q30, .inl (k30, 24, .inl (fun _ => 0))), (q38, .inl (k38, 100, .inl (fun _ => 0))), (q46, .inl (k46, 24, .inl (fun _ => 0)))] := hD
  refine lv_aload_n hx hb kd_prog_2_method_1_code_56 rfl (lv_at hl 0 rfl) ?_
  refine lv_aload_n hx hb kd_prog_2_method_1_code_57 rfl (lv_at hl 2 rfl) ?_
  refine va_putF (D := D) (ci := 3) (v := .ref p2) (ty := (.object "LazyMotion$Motion")) (C := kr_K) (T := kt_K) (N := kn_K) hx hb hts ki_K ky_K ko_K km_K hown hK hP hD hS 0 rfl rfl 7 (by decide) (hts _ hw_152) (fun _ h9 => h9) rfl hin rfl (by decide +kernel) rfl rfl (Nat.le_of_ble_eq_true rfl) kd_prog_2_method_1_code_58 (fun H locs hP hD hS => ?_)
  have hP : va_P D wk_cl [(h0, .inr (3, [.int 0, .int 0, .int 0, .ref q22, .ref q30, .ref q38, .ref p1, .ref p2, .ref q46])), (q22, .inl (k22, 6, .inl (fun _ => 0))), (q30, .inl (k30, 24, .inl (fun _ => 0))), (q38, .inl (k38, 100, .inl (fun _ => 0))), (q46, .inl (k46, 24, .inl (fun _ => 0)))] H := hP
  have hD : va_D A [(h0, .inr (3, [.int 0, .int 0, .int 0, .ref q22, .ref q30, .ref q38, .ref p1, .ref p2, .ref q46])), (q22, .inl (k22, 6, .inl (fun _ => 0))), (q30, .inl (k30, 24, .inl (fun _ => 0))), (q38, .inl (k38, 100, .inl (fun _ => 0))), (q46, .inl (k46, 24, .inl (fun _ => 0)))] := hD
  exact W.vret hx hb hr (fun t ht hW => ⟨⟨((fun n => [q22, q30, q38, q46].getD n 0), (fun n => [k22, k30, k38, k46].getD n default)), rfl, trivial, by rw [ht]; exact hP, va_K.moved hW.alike hK, hD⟩, hS.F ht⟩) hS.2.2 kd_prog_2_method_1_code_61
