theorem kd_prog_4_method_1_code_0 : decode prog_4_method_1_code 0 = .ok (.aload_n 0, 1) := by decide +kernel
theorem kd_prog_4_method_1_code_1 : decode prog_4_method_1_code 1 = .ok (.invokespecial 3, 3) := by decide +kernel
theorem kd_prog_4_method_1_code_4 : decode prog_4_method_1_code 4 = .ok (.aload_n 0, 1) := by decide +kernel
theorem kd_prog_4_method_1_code_5 : decode prog_4_method_1_code 5 = .ok (.iconst 0, 1) := by decide +kernel
theorem kd_prog_4_method_1_code_6 : decode prog_4_method_1_code 6 = .ok (.putfield 9, 3) := by decide +kernel
theorem kd_prog_4_method_1_code_9 : decode prog_4_method_1_code 9 = .ok (.aload_n 0, 1) := by decide +kernel
theorem kd_prog_4_method_1_code_10 : decode prog_4_method_1_code 10 = .ok (.iconst 0, 1) := by decide +kernel
theorem kd_prog_4_method_1_code_11 : decode prog_4_method_1_code 11 = .ok (.putfield 15, 3) := by decide +kernel
theorem kd_prog_4_method_1_code_14 : decode prog_4_method_1_code 14 = .ok (.aload_n 0, 1) := by decide +kernel
theorem kd_prog_4_method_1_code_15 : decode prog_4_method_1_code 15 = .ok (.bipush 16, 2) := by decide +kernel
theorem kd_prog_4_method_1_code_17 : decode prog_4_method_1_code 17 = .ok (.newarray .int, 2) := by decide +kernel
theorem kd_prog_4_method_1_code_19 : decode prog_4_method_1_code 19 = .ok (.putfield 18, 3) := by decide +kernel
theorem kd_prog_4_method_1_code_22 : decode prog_4_method_1_code 22 = .ok (.aload_n 0, 1) := by decide +kernel
theorem kd_prog_4_method_1_code_23 : decode prog_4_method_1_code 23 = .ok (.bipush 80, 2) := by decide +kernel
theorem kd_prog_4_method_1_code_25 : decode prog_4_method_1_code 25 = .ok (.newarray .int, 2) := by decide +kernel
theorem kd_prog_4_method_1_code_27 : decode prog_4_method_1_code 27 = .ok (.putfield 22, 3) := by decide +kernel
theorem kd_prog_4_method_1_code_30 : decode prog_4_method_1_code 30 = .ok (.aload_n 0, 1) := by decide +kernel
theorem kd_prog_4_method_1_code_31 : decode prog_4_method_1_code 31 = .ok (.bipush 80, 2) := by decide +kernel
theorem kd_prog_4_method_1_code_33 : decode prog_4_method_1_code 33 = .ok (.newarray .int, 2) := by decide +kernel
theorem kd_prog_4_method_1_code_35 : decode prog_4_method_1_code 35 = .ok (.putfield 25, 3) := by decide +kernel
theorem kd_prog_4_method_1_code_38 : decode prog_4_method_1_code 38 = .ok (.aload_n 0, 1) := by decide +kernel
theorem kd_prog_4_method_1_code_39 : decode prog_4_method_1_code 39 = .ok (.bipush 80, 2) := by decide +kernel
theorem kd_prog_4_method_1_code_41 : decode prog_4_method_1_code 41 = .ok (.newarray .int, 2) := by decide +kernel
theorem kd_prog_4_method_1_code_43 : decode prog_4_method_1_code 43 = .ok (.putfield 28, 3) := by decide +kernel
theorem kd_prog_4_method_1_code_46 : decode prog_4_method_1_code 46 = .ok (.aload_n 0, 1) := by decide +kernel
theorem kd_prog_4_method_1_code_47 : decode prog_4_method_1_code 47 = .ok (.bipush 16, 2) := by decide +kernel
theorem kd_prog_4_method_1_code_49 : decode prog_4_method_1_code 49 = .ok (.newarray .int, 2) := by decide +kernel
theorem kd_prog_4_method_1_code_51 : decode prog_4_method_1_code 51 = .ok (.putfield 31, 3) := by decide +kernel
theorem kd_prog_4_method_1_code_54 : decode prog_4_method_1_code 54 = .ok (.aload_n 0, 1) := by decide +kernel
theorem kd_prog_4_method_1_code_55 : decode prog_4_method_1_code 55 = .ok (.bipush 16, 2) := by decide +kernel
theorem kd_prog_4_method_1_code_57 : decode prog_4_method_1_code 57 = .ok (.newarray .int, 2) := by decide +kernel
theorem kd_prog_4_method_1_code_59 : decode prog_4_method_1_code 59 = .ok (.putfield 34, 3) := by decide +kernel
theorem kd_prog_4_method_1_code_62 : decode prog_4_method_1_code 62 = .ok (.aload_n 0, 1) := by decide +kernel
theorem kd_prog_4_method_1_code_63 : decode prog_4_method_1_code 63 = .ok (.bipush 16, 2) := by decide +kernel
theorem kd_prog_4_method_1_code_65 : decode prog_4_method_1_code 65 = .ok (.newarray .int, 2) := by decide +kernel
theorem kd_prog_4_method_1_code_67 : decode prog_4_method_1_code 67 = .ok (.putfield 37, 3) := by decide +kernel
theorem kd_prog_4_method_1_code_70 : decode prog_4_method_1_code 70 = .ok (.aload_n 0, 1) := by decide +kernel
theorem kd_prog_4_method_1_code_71 : decode prog_4_method_1_code 71 = .ok (.bipush 24, 2) := by decide +kernel
theorem kd_prog_4_method_1_code_73 : decode prog_4_method_1_code 73 = .ok (.newarray .int, 2) := by decide +kernel
theorem kd_prog_4_method_1_code_75 : decode prog_4_method_1_code 75 = .ok (.putfield 40, 3) := by decide +kernel
theorem kd_prog_4_method_1_code_78 : decode prog_4_method_1_code 78 = .ok (.aload_n 0, 1) := by decide +kernel
theorem kd_prog_4_method_1_code_79 : decode prog_4_method_1_code 79 = .ok (.bipush 24, 2) := by decide +kernel
theorem kd_prog_4_method_1_code_81 : decode prog_4_method_1_code 81 = .ok (.newarray .int, 2) := by decide +kernel
theorem kd_prog_4_method_1_code_83 : decode prog_4_method_1_code 83 = .ok (.putfield 43, 3) := by decide +kernel
theorem kd_prog_4_method_1_code_86 : decode prog_4_method_1_code 86 = .ok (.aload_n 0, 1) := by decide +kernel
theorem kd_prog_4_method_1_code_87 : decode prog_4_method_1_code 87 = .ok (.bipush 24, 2) := by decide +kernel
theorem kd_prog_4_method_1_code_89 : decode prog_4_method_1_code 89 = .ok (.newarray .int, 2) := by decide +kernel
theorem kd_prog_4_method_1_code_91 : decode prog_4_method_1_code 91 = .ok (.putfield 46, 3) := by decide +kernel
theorem kd_prog_4_method_1_code_94 : decode prog_4_method_1_code 94 = .ok (.aload_n 0, 1) := by decide +kernel
theorem kd_prog_4_method_1_code_95 : decode prog_4_method_1_code 95 = .ok (.bipush 6, 2) := by decide +kernel
theorem kd_prog_4_method_1_code_97 : decode prog_4_method_1_code 97 = .ok (.newarray .long, 2) := by decide +kernel
theorem kd_prog_4_method_1_code_99 : decode prog_4_method_1_code 99 = .ok (.putfield 49, 3) := by decide +kernel
theorem kd_prog_4_method_1_code_102 : decode prog_4_method_1_code 102 = .ok (.return_, 1) := by decide +kernel
def wE_P (h0 : Nat) (a : Nat → Nat) (cA : Nat → ClassId) : va_W := [(h0, .inr (1, [.int 0, .int 0, .ref (a 0), .ref (a 1), .ref (a 2), .ref (a 3), .ref (a 4), .ref (a 5), .ref (a 6), .ref (a 7), .ref (a 8), .ref (a 9), .ref (a 10)])), ((a 0), .inl ((cA 0), 16, .inl (fun _ => 0))), ((a 1), .inl ((cA 1), 80, .inl (fun _ => 0))), ((a 2), .inl ((cA 2), 80, .inl (fun _ => 0))), ((a 3), .inl ((cA 3), 80, .inl (fun _ => 0))), ((a 4), .inl ((cA 4), 16, .inl (fun _ => 0))), ((a 5), .inl ((cA 5), 16, .inl (fun _ => 0))), ((a 6), .inl ((cA 6), 16, .inl (fun _ => 0))), ((a 7), .inl ((cA 7), 24, .inl (fun _ => 0))), ((a 8), .inl ((cA 8), 24, .inl (fun _ => 0))), ((a 9), .inl ((cA 9), 24, .inl (fun _ => 0))), ((a 10), .inl ((cA 10), 6, .inr (.inl (fun _ => 0))))]
def tE_P (cA : Nat → ClassId) : List (ClassId × FieldType) := [((cA 0), .int), ((cA 1), .int), ((cA 2), .int), ((cA 3), .int), ((cA 4), .int), ((cA 5), .int), ((cA 6), .int), ((cA 7), .int), ((cA 8), .int), ((cA 9), .int), ((cA 10), .long)]
set_option maxHeartbeats 8000000 in
set_option maxRecDepth 100000 in
theorem c_P_init (l : Launch) (D : va_G) (h0 : Nat) (sz : Nat) : Met l ke_P_init (kc_P_init :: lw_g) { frames := 1, cells := 11, slots := 382, locals := 12 } (va_Pc [.ref h0] (fun U => U.heap.size = sz ∧ va_P D wk_cl [(h0, .inr (1, [.int 0, .int 0, .null, .null, .null, .null, .null, .null, .null, .null, .null, .null, .null]))] U.heap ∧ va_K D wk_cl [] U ∧ va_D (fun _ => True) [(h0, .inr (1, [.int 0, .int 0, .null, .null, .null, .null, .null, .null, .null, .null, .null, .null, .null]))])) (va_Qv (fun _ : (Nat → Nat) × (Nat → ClassId) => True) (fun u t => va_P D wk_cl (wE_P h0 u.1 u.2) t.heap ∧ va_K D wk_cl (tE_P u.2) t ∧ va_D (va_A [(h0, .inr (1, [.int 0, .int 0, .null, .null, .null, .null, .null, .null, .null, .null, .null, .null, .null]))] sz) (wE_P h0 u.1 u.2)) (va_A [(h0, .inr (1, [.int 0, .int 0, .null, .null, .null, .null, .null, .null, .null, .null, .null, .null, .null]))] sz)) 11 382 (va_A [(h0, .inr (1, [.int 0, .int 0, .null, .null, .null, .null, .null, .null, .null, .null, .null, .null, .null]))] sz) := by
  refine Met.ofW (cc := prog_4_method_1_code) (maxL := 1) (ret := none) (by decide) rfl ?_
  intro p e s m args below meth c s₁ B hml hv
  obtain ⟨rfl, hsz, hP, hK, hD0⟩ := hv
  have hx := B.exec
  have hb := B.bytes
  have hr := B.returns
  have hlocks := B.notSynchronized
  have hts0 := atoms_spec (ws := kc_P_init :: lw_g) B.pre
  have hts : ∀ w ∈ lw_g, w.before ([.ref h0] : List Value).toArray s = true := fun w hw => hts0 w (List.mem_cons_of_mem _ hw)
  have hown : s.vm.findClass kr_P = some m.cls := findClass_of_methodNamed B.named
  have hin : meth.name = "<init>" := (name_of_methodNamed B.named B.method).1
  subst hsz
  have hD := hD0.self (sz := s.heap.size)
  generalize hAe : va_A [(h0, .inr (1, [.int 0, .int 0, .null, .null, .null, .null, .null, .null, .null, .null, .null, .null, .null]))] s.heap.size = A at hD ⊢
  have hA : ∀ x : Nat, s.heap.size ≤ x → A x := fun x hx => by rw [← hAe]; exact Or.inr hx
  have hS : va_S A s.heap s.heap [] := va_S.rf
  have hl := lv_entry ([.ref h0]) (n := 1) (Nat.le_of_ble_eq_true rfl)
  rw [lg_entry_eq]
  generalize (lg_sl ([.ref h0]) ++ List.replicate (1 - (lg_sl ([.ref h0])).length) Slot.unset).toArray = ls at hl ⊢
  have hl : lv_has ls 1 [(0, .ref h0)] := hl
  refine lv_aload_n hx hb kd_prog_4_method_1_code_0 rfl (lv_at hl 0 rfl) ?_
  refine W.objInit hx hb hown (hts _ hw_29) (hts _ hw_22) (hts _ hw_23) rfl (by rw [hml]; exact hl.1) rfl kd_prog_4_method_1_code_1 (Nat.le_of_ble_eq_true rfl) (Nat.le_of_ble_eq_true rfl) ?_
  refine W.eq (g2 := F0 m 4 ls []) rfl ?_
  refine lv_aload_n hx hb kd_prog_4_method_1_code_4 rfl (lv_at hl 0 rfl) ?_
  refine lv_iconst (v := 0) hx hb kd_prog_4_method_1_code_5 (by decide) ?_
  refine va_put (D := D) (ci := 1) (v := .int 0) (ty := .int) (C := kr_P) (T := kt_P) (N := kn_P) hx hb hts ki_P ky_P ko_P km_P hown hK hP hD hS 0 rfl rfl 0 (by decide) (hts _ hw_30) (fun _ h9 => h9) rfl (by decide +kernel) rfl rfl (Nat.le_of_ble_eq_true rfl) kd_prog_4_method_1_code_6 (fun H locs hP hD hS => ?_)
  have hP : va_P D wk_cl [(h0, .inr (1, [.int 0, .int 0, .null, .null, .null, .null, .null, .null, .null, .null, .null, .null, .null]))] H := hP
  have hD : va_D A [(h0, .inr (1, [.int 0, .int 0, .null, .null, .null, .null, .null, .null, .null, .null, .null, .null, .null]))] := hD
  refine lv_aload_n hx hb kd_prog_4_method_1_code_9 rfl (lv_at hl 0 rfl) ?_
  refine lv_iconst (v := 0) hx hb kd_prog_4_method_1_code_10 (by decide) ?_
  refine va_put (D := D) (ci := 1) (v := .int 0) (ty := .int) (C := kr_P) (T := kt_P) (N := kn_P) hx hb hts ki_P ky_P ko_P km_P hown hK hP hD hS 0 rfl rfl 1 (by decide) (hts _ hw_33) (fun _ h9 => h9) rfl (by decide +kernel) rfl rfl (Nat.le_of_ble_eq_true rfl) kd_prog_4_method_1_code_11 (fun H locs hP hD hS => ?_)
  have hP : va_P D wk_cl [(h0, .inr (1, [.int 0, .int 0, .null, .null, .null, .null, .null, .null, .null, .null, .null, .null, .null]))] H := hP
  have hD : va_D A [(h0, .inr (1, [.int 0, .int 0, .null, .null, .null, .null, .null, .null, .null, .null, .null, .null, .null]))] := hD
  refine lv_aload_n hx hb kd_prog_4_method_1_code_14 rfl (lv_at hl 0 rfl) ?_
  refine lv_bipush (v := 16) hx hb kd_prog_4_method_1_code_15 (by decide) ?_
  refine va_newa (atype := .int) (ty := .int) (N' := 16) (a0 := (16, .inl (fun _ => 0))) hx hb (hts _ hw_89) rfl hK hP hD hS hA (fun _ => rfl) (by decide) rfl (by decide) (Nat.le_of_ble_eq_true rfl) (Nat.le_of_ble_eq_true rfl) kd_prog_4_method_1_code_17 (fun q17 k17 H hK hP hD hS => ?_)
  have hP : va_P D wk_cl [(h0, .inr (1, [.int 0, .int 0, .null, .null, .null, .null, .null, .null, .null, .null, .null, .null, .null])), (q17, .inl (k17, 16, .inl (fun _ => 0)))] H := hP
  have hD : va_D A [(h0, .inr (1, [.int 0, .int 0, .null, .null, .null, .null, .null, .null, .null, .null, .null, .null, .null])), (q17, .inl (k17, 16, .inl (fun _ => 0)))] := hD
  have hK : va_K D wk_cl [(k17, .int)] s := hK
  refine W.widen (k := 1) (n := 16) (by omega) (by omega) ?_
  refine va_putF (D := D) (ci := 1) (v := .ref q17) (ty := (.array .int)) (C := kr_P) (T := kt_P) (N := kn_P) hx hb hts ki_P ky_P ko_P km_P hown hK hP hD hS 0 rfl rfl 2 (by decide) (hts _ hw_37) (fun _ h9 => h9) rfl hin rfl (by decide +kernel) rfl rfl (Nat.le_of_ble_eq_true rfl) kd_prog_4_method_1_code_19 (fun H locs hP hD hS => ?_)
  have hP : va_P D wk_cl [(h0, .inr (1, [.int 0, .int 0, .ref q17, .null, .null, .null, .null, .null, .null, .null, .null, .null, .null])), (q17, .inl (k17, 16, .inl (fun _ => 0)))] H := hP
  have hD : va_D A [(h0, .inr (1, [.int 0, .int 0, .ref q17, .null, .null, .null, .null, .null, .null, .null, .null, .null, .null])), (q17, .inl (k17, 16, .inl (fun _ => 0)))] := hD
  refine lv_aload_n hx hb kd_prog_4_method_1_code_22 rfl (lv_at hl 0 rfl) ?_
  refine lv_bipush (v := 80) hx hb kd_prog_4_method_1_code_23 (by decide) ?_
  refine va_newa (atype := .int) (ty := .int) (N' := 80) (a0 := (80, .inl (fun _ => 0))) hx hb (hts _ hw_89) rfl hK hP hD hS hA (fun _ => rfl) (by decide) rfl (by decide) (Nat.le_of_ble_eq_true rfl) (Nat.le_of_ble_eq_true rfl) kd_prog_4_method_1_code_25 (fun q25 k25 H hK hP hD hS => ?_)
  have hP : va_P D wk_cl [(h0, .inr (1, [.int 0, .int 0, .ref q17, .null, .null, .null, .null, .null, .null, .null, .null, .null, .null])), (q17, .inl (k17, 16, .inl (fun _ => 0))), (q25, .inl (k25, 80, .inl (fun _ => 0)))] H := hP
  have hD : va_D A [(h0, .inr (1, [.int 0, .int 0, .ref q17, .null, .null, .null, .null, .null, .null, .null, .null, .null, .null])), (q17, .inl (k17, 16, .inl (fun _ => 0))), (q25, .inl (k25, 80, .inl (fun _ => 0)))] := hD
  have hK : va_K D wk_cl [(k17, .int), (k25, .int)] s := hK
  refine W.widen (k := 2) (n := 96) (by omega) (by omega) ?_
  refine va_putF (D := D) (ci := 1) (v := .ref q25) (ty := (.array .int)) (C := kr_P) (T := kt_P) (N := kn_P) hx hb hts ki_P ky_P ko_P km_P hown hK hP hD hS 0 rfl rfl 3 (by decide) (hts _ hw_40) (fun _ h9 => h9) rfl hin rfl (by decide +kernel) rfl rfl (Nat.le_of_ble_eq_true rfl) kd_prog_4_method_1_code_27 (fun H locs hP hD hS => ?_)
  have hP : va_P D wk_cl [(h0, .inr (1, [.int 0, .int 0, .ref q17, .ref q25, .null, .null, .null, .null, .null, .null, .null, .null, .null])), (q17, .inl (k17, 16, .inl (fun _ => 0))), (q25, .inl (k25, 80, .inl (fun _ => 0)))] H := hP
  have hD : va_D A [(h0, .inr (1, [.int 0, .int 0, .ref q17, .ref q25, .null, .null, .null, .null, .null, .null, .null, .null, .null])), (q17, .inl (k17, 16, .inl (fun _ => 0))), (q25, .inl (k25, 80, .inl (fun _ => 0)))] := hD
  refine lv_aload_n hx hb kd_prog_4_method_1_code_30 rfl (lv_at hl 0 rfl) ?_
  refine lv_bipush (v := 80) hx hb kd_prog_4_method_1_code_31 (by decide) ?_
  refine va_newa (atype := .int) (ty := .int) (N' := 80) (a0 := (80, .inl (fun _ => 0))) hx hb (hts _ hw_89) rfl hK hP hD hS hA (fun _ => rfl) (by decide) rfl (by decide) (Nat.le_of_ble_eq_true rfl) (Nat.le_of_ble_eq_true rfl) kd_prog_4_method_1_code_33 (fun q33 k33 H hK hP hD hS => ?_)
  have hP : va_P D wk_cl [(h0, .inr (1, [.int 0, .int 0, .ref q17, .ref q25, .null, .null, .null, .null, .null, .null, .null, .null, .null])), (q17, .inl (k17, 16, .inl (fun _ => 0))), (q25, .inl (k25, 80, .inl (fun _ => 0))), (q33, .inl (k33, 80, .inl (fun _ => 0)))] H := hP
  have hD : va_D A [(h0, .inr (1, [.int 0, .int 0, .ref q17, .ref q25, .null, .null, .null, .null, .null, .null, .null, .null, .null])), (q17, .inl (k17, 16, .inl (fun _ => 0))), (q25, .inl (k25, 80, .inl (fun _ => 0))), (q33, .inl (k33, 80, .inl (fun _ => 0)))] := hD
  have hK : va_K D wk_cl [(k17, .int), (k25, .int), (k33, .int)] s := hK
  refine W.widen (k := 3) (n := 176) (by omega) (by omega) ?_
  refine va_putF (D := D) (ci := 1) (v := .ref q33) (ty := (.array .int)) (C := kr_P) (T := kt_P) (N := kn_P) hx hb hts ki_P ky_P ko_P km_P hown hK hP hD hS 0 rfl rfl 4 (by decide) (hts _ hw_43) (fun _ h9 => h9) rfl hin rfl (by decide +kernel) rfl rfl (Nat.le_of_ble_eq_true rfl) kd_prog_4_method_1_code_35 (fun H locs hP hD hS => ?_)
  have hP : va_P D wk_cl [(h0, .inr (1, [.int 0, .int 0, .ref q17, .ref q25, .ref q33, .null, .null, .null, .null, .null, .null, .null, .null])), (q17, .inl (k17, 16, .inl (fun _ => 0))), (q25, .inl (k25, 80, .inl (fun _ => 0))), (q33, .inl (k33, 80, .inl (fun _ => 0)))] H := hP
  have hD : va_D A [(h0, .inr (1, [.int 0, .int 0, .ref q17, .ref q25, .ref q33, .null, .null, .null, .null, .null, .null, .null, .null])), (q17, .inl (k17, 16, .inl (fun _ => 0))), (q25, .inl (k25, 80, .inl (fun _ => 0))), (q33, .inl (k33, 80, .inl (fun _ => 0)))] := hD
  refine lv_aload_n hx hb kd_prog_4_method_1_code_38 rfl (lv_at hl 0 rfl) ?_
  refine lv_bipush (v := 80) hx hb kd_prog_4_method_1_code_39 (by decide) ?_
  refine va_newa (atype := .int) (ty := .int) (N' := 80) (a0 := (80, .inl (fun _ => 0))) hx hb (hts _ hw_89) rfl hK hP hD hS hA (fun _ => rfl) (by decide) rfl (by decide) (Nat.le_of_ble_eq_true rfl) (Nat.le_of_ble_eq_true rfl) kd_prog_4_method_1_code_41 (fun q41 k41 H hK hP hD hS => ?_)
  have hP : va_P D wk_cl [(h0, .inr (1, [.int 0, .int 0, .ref q17, .ref q25, .ref q33, .null, .null, .null, .null, .null, .null, .null, .null])), (q17, .inl (k17, 16, .inl (fun _ => 0))), (q25, .inl (k25, 80, .inl (fun _ => 0))), (q33, .inl (k33, 80, .inl (fun _ => 0))), (q41, .inl (k41, 80, .inl (fun _ => 0)))] H := hP
  have hD : va_D A [(h0, .inr (1, [.int 0, .int 0, .ref q17, .ref q25, .ref q33, .null, .null, .null, .null, .null, .null, .null, .null])), (q17, .inl (k17, 16, .inl (fun _ => 0))), (q25, .inl (k25, 80, .inl (fun _ => 0))), (q33, .inl (k33, 80, .inl (fun _ => 0))), (q41, .inl (k41, 80, .inl (fun _ => 0)))] := hD
  have hK : va_K D wk_cl [(k17, .int), (k25, .int), (k33, .int), (k41, .int)] s := hK
  refine W.widen (k := 4) (n := 256) (by omega) (by omega) ?_
  refine va_putF (D := D) (ci := 1) (v := .ref q41) (ty := (.array .int)) (C := kr_P) (T := kt_P) (N := kn_P) hx hb hts ki_P ky_P ko_P km_P hown hK hP hD hS 0 rfl rfl 5 (by decide) (hts _ hw_46) (fun _ h9 => h9) rfl hin rfl (by decide +kernel) rfl rfl (Nat.le_of_ble_eq_true rfl) kd_prog_4_method_1_code_43 (fun H locs hP hD hS => ?_)
  have hP : va_P D wk_cl [(h0, .inr (1, [.int 0, .int 0, .ref q17, .ref q25, .ref q33, .ref q41, .null, .null, .null, .null, .null, .null, .null])), (q17, .inl (k17, 16, .inl (fun _ => 0))), (q25, .inl (k25, 80, .inl (fun _ => 0))), (q33, .inl (k33, 80, .inl (fun _ => 0))), (q41, .inl (k41, 80, .inl (fun _ => 0)))] H := hP
  have hD : va_D A [(h0, .inr (1, [.int 0, .int 0, .ref q17, .ref q25, .ref q33, .ref q41, .null, .null, .null, .null, .null, .null, .null])), (q17, .inl (k17, 16, .inl (fun _ => 0))), (q25, .inl (k25, 80, .inl (fun _ => 0))), (q33, .inl (k33, 80, .inl (fun _ => 0))), (q41, .inl (k41, 80, .inl (fun _ => 0)))] := hD
  refine lv_aload_n hx hb kd_prog_4_method_1_code_46 rfl (lv_at hl 0 rfl) ?_
  refine lv_bipush (v := 16) hx hb kd_prog_4_method_1_code_47 (by decide) ?_
  refine va_newa (atype := .int) (ty := .int) (N' := 16) (a0 := (16, .inl (fun _ => 0))) hx hb (hts _ hw_89) rfl hK hP hD hS hA (fun _ => rfl) (by decide) rfl (by decide) (Nat.le_of_ble_eq_true rfl) (Nat.le_of_ble_eq_true rfl) kd_prog_4_method_1_code_49 (fun q49 k49 H hK hP hD hS => ?_)
  have hP : va_P D wk_cl [(h0, .inr (1, [.int 0, .int 0, .ref q17, .ref q25, .ref q33, .ref q41, .null, .null, .null, .null, .null, .null, .null])), (q17, .inl (k17, 16, .inl (fun _ => 0))), (q25, .inl (k25, 80, .inl (fun _ => 0))), (q33, .inl (k33, 80, .inl (fun _ => 0))), (q41, .inl (k41, 80, .inl (fun _ => 0))), (q49, .inl (k49, 16, .inl (fun _ => 0)))] H := hP
  have hD : va_D A [(h0, .inr (1, [.int 0, .int 0, .ref q17, .ref q25, .ref q33, .ref q41, .null, .null, .null, .null, .null, .null, .null])), (q17, .inl (k17, 16, .inl (fun _ => 0))), (q25, .inl (k25, 80, .inl (fun _ => 0))), (q33, .inl (k33, 80, .inl (fun _ => 0))), (q41, .inl (k41, 80, .inl (fun _ => 0))), (q49, .inl (k49, 16, .inl (fun _ => 0)))] := hD
  have hK : va_K D wk_cl [(k17, .int), (k25, .int), (k33, .int), (k41, .int), (k49, .int)] s := hK
  refine W.widen (k := 5) (n := 272) (by omega) (by omega) ?_
  refine va_putF (D := D) (ci := 1) (v := .ref q49) (ty := (.array .int)) (C := kr_P) (T := kt_P) (N := kn_P) hx hb hts ki_P ky_P ko_P km_P hown hK hP hD hS 0 rfl rfl 6 (by decide) (hts _ hw_49) (fun _ h9 => h9) rfl hin rfl (by decide +kernel) rfl rfl (Nat.le_of_ble_eq_true rfl) kd_prog_4_method_1_code_51 (fun H locs hP hD hS => ?_)
  have hP : va_P D wk_cl [(h0, .inr (1, [.int 0, .int 0, .ref q17, .ref q25, .ref q33, .ref q41, .ref q49, .null, .null, .null, .null, .null, .null])), (q17, .inl (k17, 16, .inl (fun _ => 0))), (q25, .inl (k25, 80, .inl (fun _ => 0))), (q33, .inl (k33, 80, .inl (fun _ => 0))), (q41, .inl (k41, 80, .inl (fun _ => 0))), (q49, .inl (k49, 16, .inl (fun _ => 0)))] H := hP
  have hD : va_D A [(h0, .inr (1, [.int 0, .int 0, .ref q17, .ref q25, .ref q33, .ref q41, .ref q49, .null, .null, .null, .null, .null, .null])), (q17, .inl (k17, 16, .inl (fun _ => 0))), (q25, .inl (k25, 80, .inl (fun _ => 0))), (q33, .inl (k33, 80, .inl (fun _ => 0))), (q41, .inl (k41, 80, .inl (fun _ => 0))), (q49, .inl (k49, 16, .inl (fun _ => 0)))] := hD
  refine lv_aload_n hx hb kd_prog_4_method_1_code_54 rfl (lv_at hl 0 rfl) ?_
  refine lv_bipush (v := 16) hx hb kd_prog_4_method_1_code_55 (by decide) ?_
  refine va_newa (atype := .int) (ty := .int) (N' := 16) (a0 := (16, .inl (fun _ => 0))) hx hb (hts _ hw_89) rfl hK hP hD hS hA (fun _ => rfl) (by decide) rfl (by decide) (Nat.le_of_ble_eq_true rfl) (Nat.le_of_ble_eq_true rfl) kd_prog_4_method_1_code_57 (fun q57 k57 H hK hP hD hS => ?_)
  have hP : va_P D wk_cl [(h0, .inr (1, [.int 0, .int 0, .ref q17, .ref q25, .ref q33, .ref q41, .ref q49, .null, .null, .null, .null, .null, .null])), (q17, .inl (k17, 16, .inl (fun _ => 0))), (q25, .inl (k25, 80, .inl (fun _ => 0))), (q33, .inl (k33, 80, .inl (fun _ => 0))), (q41, .inl (k41, 80, .inl (fun _ => 0))), (q49, .inl (k49, 16, .inl (fun _ => 0))), (q57, .inl (k57, 16, .inl (fun _ => 0)))] H := hP
  have hD : va_D A [(h0, .inr (1, [.int 0, .int 0, .ref q17, .ref q25, .ref q33, .ref q41, .ref q49, .null, .null, .null, .null, .null, .null])), (q17, .inl (k17, 16, .inl (fun _ => 0))), (q25, .inl (k25, 80, .inl (fun _ => 0))), (q33, .inl (k33, 80, .inl (fun _ => 0))), (q41, .inl (k41, 80, .inl (fun _ => 0))), (q49, .inl (k49, 16, .inl (fun _ => 0))), (q57, .inl (k57, 16, .inl (fun _ => 0)))] := hD
  have hK : va_K D wk_cl [(k17, .int), (k25, .int), (k33, .int), (k41, .int), (k49, .int), (k57, .int)] s := hK
  refine W.widen (k := 6) (n := 288) (by omega) (by omega) ?_
  refine va_putF (D := D) (ci := 1) (v := .ref q57) (ty := (.array .int)) (C := kr_P) (T := kt_P) (N := kn_P) hx hb hts ki_P ky_P ko_P km_P hown hK hP hD hS 0 rfl rfl 7 (by decide) (hts _ hw_51) (fun _ h9 => h9) rfl hin rfl (by decide +kernel) rfl rfl (Nat.le_of_ble_eq_true rfl) kd_prog_4_method_1_code_59 (fun H locs hP hD hS => ?_)
  have hP : va_P D wk_cl [(h0, .inr (1, [.int 0, .int 0, .ref q17, .ref q25, .ref q33, .ref q41, .ref q49, .ref q57, .null, .null, .null, .null, .null])), (q17, .inl (k17, 16, .inl (fun _ => 0))), (q25, .inl (k25, 80, .inl (fun _ => 0))), (q33, .inl (k33, 80, .inl (fun _ => 0))), (q41, .inl (k41, 80, .inl (fun _ => 0))), (q49, .inl (k49, 16, .inl (fun _ => 0))), (q57, .inl (k57, 16, .inl (fun _ => 0)))] H := hP
  have hD : va_D A [(h0, .inr (1, [.int 0, .int 0, .ref q17, .ref q25, .ref q33, .ref q41, .ref q49, .ref q57, .null, .null, .null, .null, .null])), (q17, .inl (k17, 16, .inl (fun _ => 0))), (q25, .inl (k25, 80, .inl (fun _ => 0))), (q33, .inl (k33, 80, .inl (fun _ => 0))), (q41, .inl (k41, 80, .inl (fun _ => 0))), (q49, .inl (k49, 16, .inl (fun _ => 0))), (q57, .inl (k57, 16, .inl (fun _ => 0)))] := hD
  refine lv_aload_n hx hb kd_prog_4_method_1_code_62 rfl (lv_at hl 0 rfl) ?_
  refine lv_bipush (v := 16) hx hb kd_prog_4_method_1_code_63 (by decide) ?_
  refine va_newa (atype := .int) (ty := .int) (N' := 16) (a0 := (16, .inl (fun _ => 0))) hx hb (hts _ hw_89) rfl hK hP hD hS hA (fun _ => rfl) (by decide) rfl (by decide) (Nat.le_of_ble_eq_true rfl) (Nat.le_of_ble_eq_true rfl) kd_prog_4_method_1_code_65 (fun q65 k65 H hK hP hD hS => ?_)
  have hP : va_P D wk_cl [(h0, .inr (1, [.int 0, .int 0, .ref q17, .ref q25, .ref q33, .ref q41, .ref q49, .ref q57, .null, .null, .null, .null, .null])), (q17, .inl (k17, 16, .inl (fun _ => 0))), (q25, .inl (k25, 80, .inl (fun _ => 0))), (q33, .inl (k33, 80, .inl (fun _ => 0))), (q41, .inl (k41, 80, .inl (fun _ => 0))), (q49, .inl (k49, 16, .inl (fun _ => 0))), (q57, .inl (k57, 16, .inl (fun _ => 0))), (q65, .inl (k65, 16, .inl (fun _ => 0)))] H := hP
  have hD : va_D A [(h0, .inr (1, [.int 0, .int 0, .ref q17, .ref q25, .ref q33, .ref q41, .ref q49, .ref q57, .null, .null, .null, .null, .null])), (q17, .inl (k17, 16, .inl (fun _ => 0))), (q25, .inl (k25, 80, .inl (fun _ => 0))), (q33, .inl (k33, 80, .inl (fun _ => 0))), (q41, .inl (k41, 80, .inl (fun _ => 0))), (q49, .inl (k49, 16, .inl (fun _ => 0))), (q57, .inl (k57, 16, .inl (fun _ => 0))), (q65, .inl (k65, 16, .inl (fun _ => 0)))] := hD
  have hK : va_K D wk_cl [(k17, .int), (k25, .int), (k33, .int), (k41, .int), (k49, .int), (k57, .int), (k65, .int)] s := hK
  refine W.widen (k := 7) (n := 304) (by omega) (by omega) ?_
  refine va_putF (D := D) (ci := 1) (v := .ref q65) (ty := (.array .int)) (C := kr_P) (T := kt_P) (N := kn_P) hx hb hts ki_P ky_P ko_P km_P hown hK hP hD hS 0 rfl rfl 8 (by decide) (hts _ hw_54) (fun _ h9 => h9) rfl hin rfl (by decide +kernel) rfl rfl (Nat.le_of_ble_eq_true rfl) kd_prog_4_method_1_code_67 (fun H locs hP hD hS => ?_)
  have hP : va_P D wk_cl [(h0, .inr (1, [.int 0, .int 0, .ref q17, .ref q25, .ref q33, .ref q41, .ref q49, .ref q57, .ref q65, .null, .null, .null, .null])), (q17, .inl (k17, 16, .inl (fun _ => 0))), (q25, .inl (k25, 80, .inl (fun _ => 0))), (q33, .inl (k33, 80, .inl (fun _ => 0))), (q41, .inl (k41, 80, .inl (fun _ => 0))), (q49, .inl (k49, 16, .inl (fun _ => 0))), (q57, .inl (k57, 16, .inl (fun _ => 0))), (q65, .inl (k65, 16, .inl (fun _ => 0)))] H := hP
  have hD : va_D A [(h0, .inr (1, [.int 0, .int 0, .ref q17, .ref q25, .ref q33, .ref q41, .ref q49, .ref q57, .ref q65, .null, .null, .null, .null])), (q17, .inl (k17, 16, .inl (fun _ => 0))), (q25, .inl (k25, 80, .inl (fun _ => 0))), (q33, .inl (k33, 80, .inl (fun _ => 0))), (q41, .inl (k41, 80, .inl (fun _ => 0))), (q49, .inl (k49, 16, .inl (fun _ => 0))), (q57, .inl (k57, 16, .inl (fun _ => 0))), (q65, .inl (k65, 16, .inl (fun _ => 0)))] := hD
  refine lv_aload_n hx hb kd_prog_4_method_1_code_70 rfl (lv_at hl 0 rfl) ?_
  refine lv_bipush (v := 24) hx hb kd_prog_4_method_1_code_71 (by decide) ?_
  refine va_newa (atype := .int) (ty := .int) (N' := 24) (a0 := (24, .inl (fun _ => 0))) hx hb (hts _ hw_89) rfl hK hP hD hS hA (fun _ => rfl) (by decide) rfl (by decide) (Nat.le_of_ble_eq_true rfl) (Nat.le_of_ble_eq_true rfl) kd_prog_4_method_1_code_73 (fun q73 k73 H hK hP hD hS => ?_)
  have hP : va_P D wk_cl [(h0, .inr (1, [.int 0, .int 0, .ref q17, .ref q25, .ref q33, .ref q41, .ref q49, .ref q57, .ref q65, .null, .null, .null, .null])), (q17, .inl (k17, 16, .inl (fun _ => 0))), (q25, .inl (k25, 80, .inl (fun _ => 0))), (q33, .inl (k33, 80, .inl (fun _ => 0))), (q41, .inl (k41, 80, .inl (fun _ => 0))), (q49, .inl (k49, 16, .inl (fun _ => 0))), (q57, .inl (k57, 16, .inl (fun _ => 0))), (q65, .inl (k65, 16, .inl (fun _ => 0))), (q73, .inl (k73, 24, .inl (fun _ => 0)))] H := hP
  have hD : va_D A [(h0, .inr (1, [.int 0, .int 0, .ref q17, .ref q25, .ref q33, .ref q41, .ref q49, .ref q57, .ref q65, .null, .null, .null, .null])), (q17, .inl (k17, 16, .inl (fun _ => 0))), (q25, .inl (k25, 80, .inl (fun _ => 0))), (q33, .inl (k33, 80, .inl (fun _ => 0))), (q41, .inl (k41, 80, .inl (fun _ => 0))), (q49, .inl (k49, 16, .inl (fun _ => 0))), (q57, .inl (k57, 16, .inl (fun _ => 0))), (q65, .inl (k65, 16, .inl (fun _ => 0))), (q73, .inl (k73, 24, .inl (fun _ => 0)))] := hD
  have hK : va_K D wk_cl [(k17, .int), (k25, .int), (k33, .int), (k41, .int), (k49, .int), (k57, .int), (k65, .int), (k73, .int)] s := hK
  refine W.widen (k := 8) (n := 328) (by omega) (by omega) ?_
  refine va_putF (D := D) (ci := 1) (v := .ref q73) (ty := (.array .int)) (C := kr_P) (T := kt_P) (N := kn_P) hx hb hts ki_P ky_P ko_P km_P hown hK hP hD hS 0 rfl rfl 9 (by decide) (hts _ hw_57) (fun _ h9 => h9) rfl hin rfl (by decide +kernel) rfl rfl (Nat.le_of_ble_eq_true rfl) kd_prog_4_method_1_code_75 (fun H locs hP hD hS => ?_)
  have hP : va_P D wk_cl [(h0, .inr (1, [.int 0, .int 0, .ref q17, .ref q25, .ref q33, .ref q41, .ref q49, .ref q57, .ref q65, .ref q73, .null, .null, .null])), (q17, .inl (k17, 16, .inl (fun _ => 0))), (q25, .inl (k25, 80, .inl (fun _ => 0))), (q33, .inl (k33, 80, .inl (fun _ => 0))), (q41, .inl (k41, 80, .inl (fun _ => 0))), (q49, .inl (k49, 16, .inl (fun _ => 0))), (q57, .inl (k57, 16, .inl (fun _ => 0))), (q65, .inl (k65, 16, .inl (fun _ => 0))), (q73, .inl (k73, 24, .inl (fun _ => 0)))] H := hP
  have hD : va_D A [(h0, .inr (1, [.int 0, .int 0, .ref q17, .ref q25, .ref q33, .ref q41, .ref q49, .ref q57, .ref q65, .ref q73, .null, .null, .null])), (q17, .inl (k17, 16, .inl (fun _ => 0))), (q25, .inl (k25, 80, .inl (fun _ => 0))), (q33, .inl (k33, 80, .inl (fun _ => 0))), (q41, .inl (k41, 80, .inl (fun _ => 0))), (q49, .inl (k49, 16, .inl (fun _ => 0))), (q57, .inl (k57, 16, .inl (fun _ => 0))), (q65, .inl (k65, 16, .inl (fun _ => 0))), (q73, .inl (k73, 24, .inl (fun _ => 0)))] := hD
  refine lv_aload_n hx hb kd_prog_4_method_1_code_78 rfl (lv_at hl 0 rfl) ?_
  refine lv_bipush (v := 24) hx hb kd_prog_4_method_1_code_79 (by decide) ?_
  refine va_newa (atype := .int) (ty := .int) (N' := 24) (a0 := (24, .inl (fun _ => 0))) hx hb (hts _ hw_89) rfl hK hP hD hS hA (fun _ => rfl) (by decide) rfl (by decide) (Nat.le_of_ble_eq_true rfl) (Nat.le_of_ble_eq_true rfl) kd_prog_4_method_1_code_81 (fun q81 k81 H hK hP hD hS => ?_)
  have hP : va_P D wk_cl [(h0, .inr (1, [.int 0, .int 0, .ref q17, .ref q25, .ref q33, .ref q41, .ref q49, .ref q57, .ref q65, .ref q73, .null, .null, .null])), (q17, .inl (k17, 16, .inl (fun _ => 0))), (q25, .inl (k25, 80, .inl (fun _ => 0))), (q33, .inl (k33, 80, .inl (fun _ => 0))), (q41, .inl (k41, 80, .inl (fun _ => 0))), (q49, .inl (k49, 16, .inl (fun _ => 0))), (q57, .inl (k57, 16, .inl (fun _ => 0))), (q65, .inl (k65, 16, .inl (fun _ => 0))), (q73, .inl (k73, 24, .inl (fun _ => 0))), (q81, .inl (k81, 24, .inl (fun _ => 0)))] H := hP
  have hD : va_D A [(h0, .inr (1, [.int 0, .int 0, .ref q17, .ref q25, .ref q33, .ref q41, .ref q49, .ref q57, .ref q65, .ref q73, .null, .null, .null])), (q17, .inl (k17, 16, .inl (fun _ => 0))), (q25, .inl (k25, 80, .inl (fun _ => 0))), (q33, .inl (k33, 80, .inl (fun _ => 0))), (q41, .inl (k41, 80, .inl (fun _ => 0))), (q49, .inl (k49, 16, .inl (fun _ => 0))), (q57, .inl (k57, 16, .inl (fun _ => 0))), (q65, .inl (k65, 16, .inl (fun _ => 0))), (q73, .inl (k73, 24, .inl (fun _ => 0))), (q81, .inl (k81, 24, .inl (fun _ => 0)))] := hD
  have hK : va_K D wk_cl [(k17, .int), (k25, .int), (k33, .int), (k41, .int), (k49, .int), (k57, .int), (k65, .int), (k73, .int), (k81, .int)] s := hK
  refine W.widen (k := 9) (n := 352) (by omega) (by omega) ?_
  refine va_putF (D := D) (ci := 1) (v := .ref q81) (ty := (.array .int)) (C := kr_P) (T := kt_P) (N := kn_P) hx hb hts ki_P ky_P ko_P km_P hown hK hP hD hS 0 rfl rfl 10 (by decide) (hts _ hw_58) (fun _ h9 => h9) rfl hin rfl (by decide +kernel) rfl rfl (Nat.le_of_ble_eq_true rfl) kd_prog_4_method_1_code_83 (fun H locs hP hD hS => ?_)
  have hP : va_P D wk_cl [(h0, .inr (1, [.int 0, .int 0, .ref q17, .ref q25, .ref q33, .ref q41, .ref q49, .ref q57, .ref q65, .ref q73, .ref q81, .null, .null])), (q17, .inl (k17, 16, .inl (fun _ => 0))), (q25, .inl (k25, 80, .inl (fun _ => 0))), (q33, .inl (k33, 80, .inl (fun _ => 0))), (q41, .inl (k41, 80, .inl (fun _ => 0))), (q49, .inl (k49, 16, .inl (fun _ => 0))), (q57, .inl (k57, 16, .inl (fun _ => 0))), (q65, .inl (k65, 16, .inl (fun _ => 0))), (q73, .inl (k73, 24, .inl (fun _ => 0))), (q81, .inl (k81, 24, .inl (fun _ => 0)))] H := hP
  have hD : va_D A [(h0, .inr (1, [.int 0, .int 0, .ref q17, .ref q25, .ref q33, .ref q41, .ref q49, .ref q57, .ref q65, .ref q73, .ref q81, .null, .null])), (q17, .inl (k17, 16, .inl (fun _ => 0))), (q25, .inl (k25, 80, .inl (fun _ => 0))), (q33, .inl (k33, 80, .inl (fun _ => 0))), (q41, .inl (k41, 80, .inl (fun _ => 0))), (q49, .inl (k49, 16, .inl (fun _ => 0))), (q57, .inl (k57, 16, .inl (fun _ => 0))), (q65, .inl (k65, 16, .inl (fun _ => 0))), (q73, .inl (k73, 24, .inl (fun _ => 0))), (q81, .inl (k81, 24, .inl (fun _ => 0)))] := hD
  refine lv_aload_n hx hb kd_prog_4_method_1_code_86 rfl (lv_at hl 0 rfl) ?_
  refine lv_bipush (v := 24) hx hb kd_prog_4_method_1_code_87 (by decide) ?_
  refine va_newa (atype := .int) (ty := .int) (N' := 24) (a0 := (24, .inl (fun _ => 0))) hx hb (hts _ hw_89) rfl hK hP hD hS hA (fun _ => rfl) (by decide) rfl (by decide) (Nat.le_of_ble_eq_true rfl) (Nat.le_of_ble_eq_true rfl) kd_prog_4_method_1_code_89 (fun q89 k89 H hK hP hD hS => ?_)
  have hP : va_P D wk_cl [(h0, .inr (1, [.int 0, .int 0, .ref q17, .ref q25, .ref q33, .ref q41, .ref q49, .ref q57, .ref q65, .ref q73, .ref q81, .null, .null])), (q17, .inl (k17, 16, .inl (fun _ => 0))), (q25, .inl (k25, 80, .inl (fun _ => 0))), (q33, .inl (k33, 80, .inl (fun _ => 0))), (q41, .inl (k41, 80, .inl (fun _ => 0))), (q49, .inl (k49, 16, .inl (fun _ => 0))), (q57, .inl (k57, 16, .inl (fun _ => 0))), (q65, .inl (k65, 16, .inl (fun _ => 0))), (q73, .inl (k73, 24, .inl (fun _ => 0))), (q81, .inl (k81, 24, .inl (fun _ => 0))), (q89, .inl (k89, 24, .inl (fun _ => 0)))] H := hP
  have hD : va_D A [(h0, .inr (1, [.int 0, .int 0, .ref q17, .ref q25, .ref q33, .ref q41, .ref q49, .ref q57, .ref q65, .ref q73, .ref q81, .null, .null])), (q17, .inl (k17, 16, .inl (fun _ => 0))), (q25, .inl (k25, 80, .inl (fun _ => 0))), (q33, .inl (k33, 80, .inl (fun _ => 0))), (q41, .inl (k41, 80, .inl (fun _ => 0))), (q49, .inl (k49, 16, .inl (fun _ => 0))), (q57, .inl (k57, 16, .inl (fun _ => 0))), (q65, .inl (k65, 16, .inl (fun _ => 0))), (q73, .inl (k73, 24, .inl (fun _ => 0))), (q81, .inl (k81, 24, .inl (fun _ => 0))), (q89, .inl (k89, 24, .inl (fun _ => 0)))] := hD
  have hK : va_K D wk_cl [(k17, .int), (k25, .int), (k33, .int), (k41, .int), (k49, .int), (k57, .int), (k65, .int), (k73, .int), (k81, .int), (k89, .int)] s := hK
  refine W.widen (k := 10) (n := 376) (by omega) (by omega) ?_
  refine va_putF (D := D) (ci := 1) (v := .ref q89) (ty := (.array .int)) (C := kr_P) (T := kt_P) (N := kn_P) hx hb hts ki_P ky_P ko_P km_P hown hK hP hD hS 0 rfl rfl 11 (by decide) (hts _ hw_59) (fun _ h9 => h9) rfl hin rfl (by decide +kernel) rfl rfl (Nat.le_of_ble_eq_true rfl) kd_prog_4_method_1_code_91 (fun H locs hP hD hS => ?_)
  have hP : va_P D wk_cl [(h0, .inr (1, [.int 0, .int 0, .ref q17, .ref q25, .ref q33, .ref q41, .ref q49, .ref q57, .ref q65, .ref q73, .ref q81, .ref q89, .null])), (q17, .inl (k17, 16, .inl (fun _ => 0))), (q25, .inl (k25, 80, .inl (fun _ => 0))), (q33, .inl (k33, 80, .inl (fun _ => 0))), (q41, .inl (k41, 80, .inl (fun _ => 0))), (q49, .inl (k49, 16, .inl (fun _ => 0))), (q57, .inl (k57, 16, .inl (fun _ => 0))), (q65, .inl (k65, 16, .inl (fun _ => 0))), (q73, .inl (k73, 24, .inl (fun _ => 0))), (q81, .inl (k81, 24, .inl (fun _ => 0))), (q89, .inl (k89, 24, .inl (fun _ => 0)))] H := hP
  have hD : va_D A [(h0, .inr (1, [.int 0, .int 0, .ref q17, .ref q25, .ref q33, .ref q41, .ref q49, .ref q57, .ref q65, .ref q73, .ref q81, .ref q89, .null])), (q17, .inl (k17, 16, .inl (fun _ => 0))), (q25, .inl (k25, 80, .inl (fun _ => 0))), (q33, .inl (k33, 80, .inl (fun _ => 0))), (q41, .inl (k41, 80, .inl (fun _ => 0))), (q49, .inl (k49, 16, .inl (fun _ => 0))), (q57, .inl (k57, 16, .inl (fun _ => 0))), (q65, .inl (k65, 16, .inl (fun _ => 0))), (q73, .inl (k73, 24, .inl (fun _ => 0))), (q81, .inl (k81, 24, .inl (fun _ => 0))), (q89, .inl (k89, 24, .inl (fun _ => 0)))] := hD
  refine lv_aload_n hx hb kd_prog_4_method_1_code_94 rfl (lv_at hl 0 rfl) ?_
  refine lv_bipush (v := 6) hx hb kd_prog_4_method_1_code_95 (by decide) ?_
  refine va_newa (atype := .long) (ty := .long) (N' := 6) (a0 := (6, .inr (.inl (fun _ => 0)))) hx hb (hts _ hw_90) rfl hK hP hD hS hA (fun _ => rfl) (by decide) rfl (by decide) (Nat.le_of_ble_eq_true rfl) (Nat.le_of_ble_eq_true rfl) kd_prog_4_method_1_code_97 (fun q97 k97 H hK hP hD hS => ?_)
  have hP : va_P D wk_cl [(h0, .inr (1, [.int 0, .int 0, .ref q17, .ref q25, .ref q33, .ref q41, .ref q49, .ref q57, .ref q65, .ref q73, .ref q81, .ref q89, .null])), (q17, .inl (k17, 16, .inl (fun _ => 0))), (q25, .inl (k25, 80, .inl (fun _ => 0))), (q33, .inl (k33, 80, .inl (fun _ => 0))), (q41, .inl (k41, 80, .inl (fun _ => 0))), (q49, .inl (k49, 16, .inl (fun _ => 0))), (q57, .inl (k57, 16, .inl (fun _ => 0))), (q65, .inl (k65, 16, .inl (fun _ => 0))), (q73, .inl (k73, 24, .inl (fun _ => 0))), (q81, .inl (k81, 24, .inl (fun _ => 0))), (q89, .inl (k89, 24, .inl (fun _ => 0))), (q97, .inl (k97, 6, .inr (.inl (fun _ => 0))))] H := hP
  have hD : va_D A [(h0, .inr (1, [.int 0, .int 0, .ref q17, .ref q25, .ref q33, .ref q41, .ref q49, .ref q57, .ref q65, .ref q73, .ref q81, .ref q89, .null])), (q17, .inl (k17, 16, .inl (fun _ => 0))), (q25, .inl (k25, 80, .inl (fun _ => 0))), (q33, .inl (k33, 80, .inl (fun _ => 0))), (q41, .inl (k41, 80, .inl (fun _ => 0))), (q49, .inl (k49, 16, .inl (fun _ => 0))), (q57, .inl (k57, 16, .inl (fun _ => 0))), (q65, .inl (k65, 16, .inl (fun _ => 0))), (q73, .inl (k73, 24, .inl (fun _ => 0))), (q81, .inl (k81, 24, .inl (fun _ => 0))), (q89, .inl (k89, 24, .inl (fun _ => 0))), (q97, .inl (k97, 6, .inr (.inl (fun _ => 0))))] := hD
  have hK : va_K D wk_cl [(k17, .int), (k25, .int), (k33, .int), (k41, .int), (k49, .int), (k57, .int), (k65, .int), (k73, .int), (k81, .int), (k89, .int), (k97, .long)] s := hK
  refine W.widen (k := 11) (n := 382) (by omega) (by omega) ?_
  refine va_putF (D := D) (ci := 1) (v := .ref q97) (ty := (.array .long)) (C := kr_P) (T := kt_P) (N := kn_P) hx hb hts ki_P ky_P ko_P km_P hown hK hP hD hS 0 rfl rfl 12 (by decide) (hts _ hw_60) (fun _ h9 => h9) rfl hin rfl (by decide +kernel) rfl rfl (Nat.le_of_ble_eq_true rfl) kd_prog_4_method_1_code_99 (fun H locs hP hD hS => ?_)
  have hP : va_P D wk_cl [(h0, .inr (1, [.int 0, .int 0, .ref q17, .ref q25, .ref q33, .ref q41, .ref q49, .ref q57, .ref q65, .ref q73, .ref q81, .ref q89, .ref q97])), (q17, .inl (k17, 16, .inl (fun _ => 0))), (q25, .inl (k25, 80, .inl (fun _ => 0))), (q33, .inl (k33, 80, .inl (fun _ => 0))), (q41, .inl (k41, 80, .inl (fun _ => 0))), (q49, .inl (k49, 16, .inl (fun _ => 0))), (q57, .inl (k57, 16, .inl (fun _ => 0))), (q65, .inl (k65, 16, .inl (fun _ => 0))), (q73, .inl (k73, 24, .inl (fun _ => 0))), (q81, .inl (k81, 24, .inl (fun _ => 0))), (q89, .inl (k89, 24, .inl (fun _ => 0))), (q97, .inl (k97, 6, .inr (.inl (fun _ => 0))))] H := hP
  have hD : va_D A [(h0, .inr (1, [.int 0, .int 0, .ref q17, .ref q25, .ref q33, .ref q41, .ref q49, .ref q57, .ref q65, .ref q73, .ref q81, .ref q89, .ref q97])), (q17, .inl (k17, 16, .inl (fun _ => 0))), (q25, .inl (k25, 80, .inl (fun _ => 0))), (q33, .inl (k33, 80, .inl (fun _ => 0))), (q41, .inl (k41, 80, .inl (fun _ => 0))), (q49, .inl (k49, 16, .inl (fun _ => 0))), (q57, .inl (k57, 16, .inl (fun _ => 0))), (q65, .inl (k65, 16, .inl (fun _ => 0))), (q73, .inl (k73, 24, .inl (fun _ => 0))), (q81, .inl (k81, 24, .inl (fun _ => 0))), (q89, .inl (k89, 24, .inl (fun _ => 0))), (q97, .inl (k97, 6, .inr (.inl (fun _ => 0))))] := hD
  exact W.vret hx hb hr (fun t ht hW => ⟨⟨((fun n => [q17, q25, q33, q41, q49, q57, q65, q73, q81, q89, q97].getD n 0), (fun n => [k17, k25, k33, k41, k49, k57, k65, k73, k81, k89, k97].getD n default)), rfl, trivial, by rw [ht]; exact hP, va_K.moved hW.alike hK, hD⟩, hS.F ht⟩) hS.2.2 kd_prog_4_method_1_code_102
