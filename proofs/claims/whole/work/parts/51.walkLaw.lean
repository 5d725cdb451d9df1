section
variable {p : Program} {l : Launch} {e : Env} {R : Room} {s : State} {m : MethodId} {args : Array Value} {below : List Frame} {meth : Method} {c : Code} {Q : State → Prop} {ce sl : Nat} {D : va_G} {q : Nat → Nat} {cA : Nat → ClassId} {A : Nat → Prop}
set_option maxHeartbeats 8000000 in
set_option maxRecDepth 100000 in
theorem w_L_law {b0 L : Nat} {xs : Nat → Int32} {SA : Nat → Nat} (hst : l.stackTraces = false) (hx : p.tables.exec = Jvm.exec) (hb : c.code = cL_law) (hml : c.maxLocals = 8) (hown : s.vm.findClass kr_L = some m.cls) (hts : ∀ w ∈ lw_g, w.before args s = true) (hRf : 8 ≤ R.frames) (hRl : 186 ≤ R.locals) (hRc : 1092 ≤ R.cells) (hRs : 10336 ≤ R.slots) (hA : ∀ x, s.heap.size ≤ x → A x) (hK : va_K D wk_cl (tysW cA) s) (hX : va_X b0 L xs s s.heap) (hbl : b0 < s.heap.size) (hbA : ¬ A b0) (hXL : wk_XL A SA s) (K : Int32 → Sta → Prop) (hret : ∀ (r : Int32) (u : Sta) (H : Heap) (locs : List Loc) (pc : Nat) (ls : Array Slot) (ce sl : Nat), ce ≤ 1092 → sl ≤ 10336 → K r u → wk_S D q cA A s.heap u H locs → decode cL_law pc = .ok (.ireturn, 1) → W p l e R s m args below meth c H locs ce sl Q (F0 m pc ls [.int r])) : ∀ (n : Nat) (x4 : Int32) (z : Sta) (H : Heap) (locs : List Loc) (ls : Array Slot) (ce sl : Nat), ce + n ≤ 1092 → sl + 6 * n ≤ 10336 → wk_S D q cA A s.heap z H locs → lv_has ls 8 [(0, .ref b0), (1, .ref (q 0)), (2, .ref (q 4)), (3, .ref (q 51)), (4, .int x4)] → lp_L_law_23 xs L K n x4 z → W p l e R s m args below meth c H locs ce sl Q (F0 m 23 ls []) := by
  have L23 : ∀ (n : Nat) (x4 : Int32) (z : Sta) (H : Heap) (locs : List Loc) (ls : Array Slot) (ce sl : Nat), ce + n ≤ 1092 → sl + 6 * n ≤ 10336 → wk_S D q cA A s.heap z H locs → lv_has ls 8 [(0, .ref b0), (1, .ref (q 0)), (2, .ref (q 4)), (3, .ref (q 51)), (4, .int x4)] → lp_L_law_23 xs L K n x4 z → W p l e R s m args below meth c H locs ce sl Q (F0 m 23 ls []) := by
    intro n23
    induction n23 with
    | zero => intro x4 z H locs ls ce sl hce hsl hV hl h; rw [lp_L_law_23] at h; exact h.elim
    | succ n23 ih23 =>
      have J932 : ∀ (x4 : Int32) (z : Sta) (H : Heap) (locs : List Loc) (ls : Array Slot) (ce sl : Nat), ce + n23 ≤ 1092 → sl + 6 * n23 ≤ 10336 → wk_S D q cA A s.heap z H locs → lv_has ls 8 [(0, .ref b0), (1, .ref (q 0)), (2, .ref (q 4)), (3, .ref (q 51)), (4, .int x4)] → pj_L_law_932 xs L K (fun x4 z => lp_L_law_23 xs L K n23 x4 z) x4 z → W p l e R s m args below meth c H locs ce sl Q (F0 m 932 ls []) := by
        intro x4 z H locs ls ce sl hce hsl hV hl h
        unfold pj_L_law_932 at h
        obtain ⟨v153, ev153⟩ : ∃ v : Int32, v = x4 + 6 := ⟨_, rfl⟩
        have h := h v153 ev153
        refine lv_iinc (v := v153) (k := 4) hx hb dL_law_932 hl rfl (by rw [ev153]; rfl) (by decide) rfl (fun ls hl => ?_)
        have hl : lv_has ls 8 [(4, .int v153), (0, .ref b0), (1, .ref (q 0)), (2, .ref (q 4)), (3, .ref (q 51))] := hl
        refine lv_goto (tgt := 23) hx hb dL_law_935 (by decide) ?_
        exact ih23 v153 z H locs ls ce sl (by omega) (by omega) hV (lv_sub hl [1, 2, 3, 4, 0] rfl) h
      have J929 : ∀ (x4 : Int32) (z : Sta) (H : Heap) (locs : List Loc) (ls : Array Slot) (ce sl : Nat), ce + n23 ≤ 1092 → sl + 6 * n23 ≤ 10336 → wk_S D q cA A s.heap z H locs → lv_has ls 8 [(0, .ref b0), (1, .ref (q 0)), (2, .ref (q 4)), (3, .ref (q 51)), (4, .int x4)] → pj_L_law_929 xs L K (fun x4 z => lp_L_law_23 xs L K n23 x4 z) x4 z → W p l e R s m args below meth c H locs ce sl Q (F0 m 929 ls []) := by
        intro x4 z H locs ls ce sl hce hsl hV hl h
        unfold pj_L_law_929 at h
        refine lv_goto (tgt := 932) hx hb dL_law_929 (by decide) ?_
        exact J932 x4 z H locs ls ce sl (by omega) (by omega) hV (lv_sub hl [0, 1, 2, 3, 4] rfl) h
      have J848 : ∀ (x4 : Int32) (z : Sta) (H : Heap) (locs : List Loc) (ls : Array Slot) (ce sl : Nat), ce + n23 ≤ 1092 → sl + 6 * n23 ≤ 10336 → wk_S D q cA A s.heap z H locs → lv_has ls 8 [(0, .ref b0), (1, .ref (q 0)), (2, .ref (q 4)), (3, .ref (q 51)), (4, .int x4)] → pj_L_law_848 xs L K (fun x4 z => lp_L_law_23 xs L K n23 x4 z) x4 z → W p l e R s m args below meth c H locs ce sl Q (F0 m 848 ls []) := by
        intro x4 z H locs ls ce sl hce hsl hV hl h
        unfold pj_L_law_848 at h
        refine lv_goto (tgt := 932) hx hb dL_law_848 (by decide) ?_
        exact J932 x4 z H locs ls ce sl (by omega) (by omega) hV (lv_sub hl [0, 1, 2, 3, 4] rfl) h
      have J792 : ∀ (x4 : Int32) (z : Sta) (H : Heap) (locs : List Loc) (ls : Array Slot) (ce sl : Nat), ce + n23 ≤ 1092 → sl + 6 * n23 ≤ 10336 → wk_S D q cA A s.heap z H locs → lv_has ls 8 [(0, .ref b0), (1, .ref (q 0)), (2, .ref (q 4)), (3, .ref (q 51)), (4, .int x4)] → pj_L_law_792 xs L K (fun x4 z => lp_L_law_23 xs L K n23 x4 z) x4 z → W p l e R s m args below meth c H locs ce sl Q (F0 m 792 ls []) := by
        intro x4 z H locs ls ce sl hce hsl hV hl h
        unfold pj_L_law_792 at h
        refine lv_goto (tgt := 932) hx hb dL_law_792 (by decide) ?_
        exact J932 x4 z H locs ls ce sl (by omega) (by omega) hV (lv_sub hl [0, 1, 2, 3, 4] rfl) h
      have J723 : ∀ (x4 : Int32) (z : Sta) (H : Heap) (locs : List Loc) (ls : Array Slot) (ce sl : Nat), ce + n23 ≤ 1092 → sl + 6 * n23 ≤ 10336 → wk_S D q cA A s.heap z H locs → lv_has ls 8 [(0, .ref b0), (1, .ref (q 0)), (2, .ref (q 4)), (3, .ref (q 51)), (4, .int x4)] → pj_L_law_723 xs L K (fun x4 z => lp_L_law_23 xs L K n23 x4 z) x4 z → W p l e R s m args below meth c H locs ce sl Q (F0 m 723 ls []) := by
        intro x4 z H locs ls ce sl hce hsl hV hl h
        unfold pj_L_law_723 at h
        refine lv_goto (tgt := 932) hx hb dL_law_723 (by decide) ?_
        exact J932 x4 z H locs ls ce sl (by omega) (by omega) hV (lv_sub hl [0, 1, 2, 3, 4] rfl) h
      have J672 : ∀ (x4 : Int32) (x5 : Int32) (y0 : Int32) (z : Sta) (H : Heap) (locs : List Loc) (ls : Array Slot) (ce sl : Nat), ce + n23 ≤ 1092 → sl + 6 * n23 ≤ 10336 → wk_S D q cA A s.heap z H locs → lv_has ls 8 [(0, .ref b0), (1, .ref (q 0)), (2, .ref (q 4)), (3, .ref (q 51)), (4, .int x4), (5, .int x5)] → pj_L_law_672 xs L K (fun x4 z => lp_L_law_23 xs L K n23 x4 z) x4 x5 y0 z → W p l e R s m args below meth c H locs ce sl Q (F0 m 672 ls [.int y0, .ref (q 4)]) := by
        intro x4 x5 y0 z H locs ls ce sl hce hsl hV hl h
        unfold pj_L_law_672 at h
        refine lv_aload_n hx hb dL_law_672 rfl (lv_at hl 0 rfl) ?_
        refine lv_iload hx hb dL_law_673 (lv_at hl 4 rfl) ?_
        refine lv_iconst (v := 2) hx hb dL_law_675 (by decide) ?_
        refine lv_iadd hx hb dL_law_676 ?_
        refine lv_topi (fun v163 ev163 => ?_)
        have h := h v163 ev163
        obtain ⟨hin, h⟩ := h
        refine va_sld hx hb hX hbl hbA hV.2.2 hin dL_law_677 ?_
        refine lv_topi (fun v164 ev164 => ?_)
        have h := h v164 ev164
        refine lv_aload_n hx hb dL_law_678 rfl (lv_at hl 0 rfl) ?_
        refine lv_iload hx hb dL_law_679 (lv_at hl 4 rfl) ?_
        refine lv_iconst (v := 3) hx hb dL_law_681 (by decide) ?_
        refine lv_iadd hx hb dL_law_682 ?_
        refine lv_topi (fun v165 ev165 => ?_)
        have h := h v165 ev165
        obtain ⟨hin, h⟩ := h
        refine va_sld hx hb hX hbl hbA hV.2.2 hin dL_law_683 ?_
        refine lv_topi (fun v166 ev166 => ?_)
        have h := h v166 ev166
        refine lv_aload_n hx hb dL_law_684 rfl (lv_at hl 0 rfl) ?_
        refine lv_iload hx hb dL_law_685 (lv_at hl 4 rfl) ?_
        refine lv_iconst (v := 4) hx hb dL_law_687 (by decide) ?_
        refine lv_iadd hx hb dL_law_688 ?_
        refine lv_topi (fun v167 ev167 => ?_)
        have h := h v167 ev167
        obtain ⟨hin, h⟩ := h
        refine va_sld hx hb hX hbl hbA hV.2.2 hin dL_law_689 ?_
        refine lv_topi (fun v168 ev168 => ?_)
        have h := h v168 ev168
        refine wk_calli (va_runV (As := [.int y0, .int v164, .int v166, .int v168]) (rest := []) ⟨hx, hb, hml, hown, hts⟩ (c_M_run l D q cA y0 v164 v166 v168 z H.size _ h) (cwV 4 hts gs_L_95 rfl rfl rfl (by decide +kernel) ⟨Nat.le_trans (by decide) hRf, Nat.le_trans (by decide) hRl⟩) (wk_preV hK hV 4 4 rfl rfl [.int y0, .int v164, .int v166, .int v168]) rfl rfl hl.1 rfl (lv_room (Nat.le_of_ble_eq_true rfl)) dL_law_690 ⟨Nat.le_trans (show ce + 0 ≤ 1092 by omega) hRc, Nat.le_trans (show sl + 0 ≤ 10336 by omega) hRs⟩) hV hA (fun rz169 z169 H locs h hV => ?_)
        refine lv_istore hx hb dL_law_693 hl (by decide) rfl (fun ls hl => ?_)
        have hl : lv_has ls 8 [(6, .int rz169), (0, .ref b0), (1, .ref (q 0)), (2, .ref (q 4)), (3, .ref (q 51)), (4, .int x4), (5, .int x5)] := hl
        refine lv_aload_n hx hb dL_law_695 rfl (lv_at hl 3 rfl) ?_
        refine wk_calli (va_runV (As := []) (rest := []) ⟨hx, hb, hml, hown, hts⟩ (c_M_thrown l D q cA z169 H.size _ h) (cwV 0 hts gs_L_68 rfl rfl rfl (by decide +kernel) ⟨Nat.le_trans (by decide) hRf, Nat.le_trans (by decide) hRl⟩) (wk_preV hK hV 4 4 rfl rfl []) rfl rfl hl.1 rfl (lv_room (Nat.le_of_ble_eq_true rfl)) dL_law_696 ⟨Nat.le_trans (show ce + 0 ≤ 1092 by omega) hRc, Nat.le_trans (show sl + 0 ≤ 10336 by omega) hRs⟩) hV hA (fun rz170 z170 H locs h hV => ?_)
        refine lv_iload hx hb dL_law_699 (lv_at hl 6 rfl) ?_
        refine lv_icmp_eq (tgt := 706) hx hb dL_law_701 (by decide) (fun hc => ?_) (fun hc => ?_)
        · have h := h.1 hc
          refine lv_iload hx hb dL_law_706 (lv_at hl 6 rfl) ?_
          refine lv_if_ne (tgt := 723) hx hb dL_law_708 (by decide) (fun hc => ?_) (fun hc => ?_)
          · have h := h.1 hc
            exact J723 x4 z170 H locs ls ce sl (by omega) (by omega) hV (lv_sub hl [1, 2, 3, 4, 5] rfl) h
          · have h := h.2 hc
            refine lv_aload_n hx hb dL_law_711 rfl (lv_at hl 4 rfl) ?_
            refine lv_iconst (v := 0) hx hb dL_law_712 (by decide) ?_
            obtain ⟨hin, h⟩ := h
            refine va_lald hx hb hK hV.1 51 46 rfl rfl hin dL_law_713 ?_
            refine lv_topl (fun v171 ev171 => ?_)
            have h := h v171 ev171
            refine lv_iload hx hb dL_law_714 (lv_at hl 0 rfl) ?_
            refine lv_i2l hx hb dL_law_716 rfl ?_
            refine lv_topl (fun v172 ev172 => ?_)
            have h := h v172 ev172
            refine W.lcmp hx hb dL_law_717 ?_
            refine lv_topi (fun v173 ev173 => ?_)
            have h := h v173 ev173
            refine lv_if_eq (tgt := 723) hx hb dL_law_718 (by decide) (fun hc => ?_) (fun hc => ?_)
            · have h := h.1 hc
              exact J723 x4 z170 H locs ls ce sl (by omega) (by omega) hV (lv_sub hl [1, 2, 3, 4, 5] rfl) h
            · have h := h.2 hc
              refine lv_iconst (v := 0) hx hb dL_law_721 (by decide) ?_
              obtain ⟨hz, h⟩ := h
              exact hret 0 z170 H locs 722 ls ce sl (by omega) (by omega) h hV dL_law_722
        · have h := h.2 hc
          refine lv_iconst (v := 0) hx hb dL_law_704 (by decide) ?_
          obtain ⟨hz, h⟩ := h
          exact hret 0 z170 H locs 705 ls ce sl (by omega) (by omega) h hV dL_law_705
      have J633 : ∀ (x4 : Int32) (y0 : Int32) (z : Sta) (H : Heap) (locs : List Loc) (ls : Array Slot) (ce sl : Nat), ce + (n23 + 1) ≤ 1092 → sl + 6 * (n23 + 1) ≤ 10336 → wk_S D q cA A s.heap z H locs → lv_has ls 8 [(0, .ref b0), (1, .ref (q 0)), (2, .ref (q 4)), (3, .ref (q 51)), (4, .int x4)] → pj_L_law_633 xs L K (fun x4 z => lp_L_law_23 xs L K n23 x4 z) x4 y0 z → W p l e R s m args below meth c H locs ce sl Q (F0 m 633 ls [.int y0, .ref (q 0)]) := by
        intro x4 y0 z H locs ls ce sl hce hsl hV hl h
        unfold pj_L_law_633 at h
        refine lv_aload_n hx hb dL_law_633 rfl (lv_at hl 0 rfl) ?_
        refine lv_iload hx hb dL_law_634 (lv_at hl 4 rfl) ?_
        refine lv_iconst (v := 2) hx hb dL_law_636 (by decide) ?_
        refine lv_iadd hx hb dL_law_637 ?_
        refine lv_topi (fun v154 ev154 => ?_)
        have h := h v154 ev154
        obtain ⟨hin, h⟩ := h
        refine va_sld hx hb hX hbl hbA hV.2.2 hin dL_law_638 ?_
        refine lv_topi (fun v155 ev155 => ?_)
        have h := h v155 ev155
        refine lv_aload_n hx hb dL_law_639 rfl (lv_at hl 0 rfl) ?_
        refine lv_iload hx hb dL_law_640 (lv_at hl 4 rfl) ?_
        refine lv_iconst (v := 3) hx hb dL_law_642 (by decide) ?_
        refine lv_iadd hx hb dL_law_643 ?_
        refine lv_topi (fun v156 ev156 => ?_)
        have h := h v156 ev156
        obtain ⟨hin, h⟩ := h
        refine va_sld hx hb hX hbl hbA hV.2.2 hin dL_law_644 ?_
        refine lv_topi (fun v157 ev157 => ?_)
        have h := h v157 ev157
        refine lv_aload_n hx hb dL_law_645 rfl (lv_at hl 0 rfl) ?_
        refine lv_iload hx hb dL_law_646 (lv_at hl 4 rfl) ?_
        refine lv_iconst (v := 4) hx hb dL_law_648 (by decide) ?_
        refine lv_iadd hx hb dL_law_649 ?_
        refine lv_topi (fun v158 ev158 => ?_)
        have h := h v158 ev158
        obtain ⟨hin, h⟩ := h
        refine va_sld hx hb hX hbl hbA hV.2.2 hin dL_law_650 ?_
        refine lv_topi (fun v159 ev159 => ?_)
        have h := h v159 ev159
        refine lv_aload_n hx hb dL_law_651 rfl (lv_at hl 3 rfl) ?_
        refine wk_callm (vx_runSW (As := [.ref (q 0), .int y0, .int v155, .int v157, .int v159, .ref (q 51)]) (rest := []) ⟨hx, hb, hml, hown, hts⟩ (c_L_run l hst D q cA SA y0 v155 v157 v159 z H.size _ h) (vx_cwSW 6 hts gs_L_92 rfl rfl rfl (by decide +kernel) ⟨Nat.le_trans (by decide) hRf, Nat.le_trans (by decide) hRl⟩) (wk_preSL hK hV hA hXL [.ref (q 0), .int y0, .int v155, .int v157, .int v159, .ref (q 51)]) rfl rfl hl.1 rfl (lv_room (Nat.le_of_ble_eq_true rfl)) dL_law_652 ⟨Nat.le_trans (show ce + 1 ≤ 1092 by omega) hRc, Nat.le_trans (show sl + 6 ≤ 10336 by omega) hRs⟩) hV hA (fun rz160 z160 H locs h hV => ?_)
        have hce : (ce + 1) + n23 ≤ 1092 := by omega
        have hsl : (sl + 6) + 6 * n23 ≤ 10336 := by omega
        generalize ce + 1 = ce at hce ⊢
        generalize sl + 6 = sl at hsl ⊢
        refine lv_istore hx hb dL_law_655 hl (by decide) rfl (fun ls hl => ?_)
        have hl : lv_has ls 8 [(5, .int rz160), (0, .ref b0), (1, .ref (q 0)), (2, .ref (q 4)), (3, .ref (q 51)), (4, .int x4)] := hl
        refine lv_aload_n hx hb dL_law_657 rfl (lv_at hl 3 rfl) ?_
        refine lv_aload_n hx hb dL_law_658 rfl (lv_at hl 1 rfl) ?_
        refine lv_iload hx hb dL_law_659 (lv_at hl 5 rfl) ?_
        refine lv_iconst (v := 1) hx hb dL_law_661 (by decide) ?_
        refine lv_iadd hx hb dL_law_662 ?_
        refine lv_topi (fun v161 ev161 => ?_)
        have h := h v161 ev161
        obtain ⟨hin, h⟩ := h
        refine va_sld hx hb hX hbl hbA hV.2.2 hin dL_law_663 ?_
        refine lv_topi (fun v162 ev162 => ?_)
        have h := h v162 ev162
        refine lv_if_eq (tgt := 671) hx hb dL_law_664 (by decide) (fun hc => ?_) (fun hc => ?_)
        · have h := h.1 hc
          refine lv_iconst (v := 0) hx hb dL_law_671 (by decide) ?_
          exact J672 x4 rz160 0 z160 H locs ls ce sl (by omega) (by omega) hV (lv_sub hl [1, 2, 3, 4, 5, 0] rfl) h
        · have h := h.2 hc
          refine lv_iconst (v := 1) hx hb dL_law_667 (by decide) ?_
          refine lv_goto (tgt := 672) hx hb dL_law_668 (by decide) ?_
          exact J672 x4 rz160 1 z160 H locs ls ce sl (by omega) (by omega) hV (lv_sub hl [1, 2, 3, 4, 5, 0] rfl) h
      have J615 : ∀ (x4 : Int32) (z : Sta) (H : Heap) (locs : List Loc) (ls : Array Slot) (ce sl : Nat), ce + n23 ≤ 1092 → sl + 6 * n23 ≤ 10336 → wk_S D q cA A s.heap z H locs → lv_has ls 8 [(0, .ref b0), (1, .ref (q 0)), (2, .ref (q 4)), (3, .ref (q 51)), (4, .int x4)] → pj_L_law_615 xs L K (fun x4 z => lp_L_law_23 xs L K n23 x4 z) x4 z → W p l e R s m args below meth c H locs ce sl Q (F0 m 615 ls []) := by
        intro x4 z H locs ls ce sl hce hsl hV hl h
        unfold pj_L_law_615 at h
        refine lv_goto (tgt := 932) hx hb dL_law_615 (by decide) ?_
        exact J932 x4 z H locs ls ce sl (by omega) (by omega) hV (lv_sub hl [0, 1, 2, 3, 4] rfl) h
      have J535 : ∀ (x4 : Int32) (z : Sta) (H : Heap) (locs : List Loc) (ls : Array Slot) (ce sl : Nat), ce + n23 ≤ 1092 → sl + 6 * n23 ≤ 10336 → wk_S D q cA A s.heap z H locs → lv_has ls 8 [(0, .ref b0), (1, .ref (q 0)), (2, .ref (q 4)), (3, .ref (q 51)), (4, .int x4)] → pj_L_law_535 xs L K (fun x4 z => lp_L_law_23 xs L K n23 x4 z) x4 z → W p l e R s m args below meth c H locs ce sl Q (F0 m 535 ls []) := by
        intro x4 z H locs ls ce sl hce hsl hV hl h
        unfold pj_L_law_535 at h
        refine lv_goto (tgt := 932) hx hb dL_law_535 (by decide) ?_
        exact J932 x4 z H locs ls ce sl (by omega) (by omega) hV (lv_sub hl [0, 1, 2, 3, 4] rfl) h
      have J468 : ∀ (x4 : Int32) (z : Sta) (H : Heap) (locs : List Loc) (ls : Array Slot) (ce sl : Nat), ce + n23 ≤ 1092 → sl + 6 * n23 ≤ 10336 → wk_S D q cA A s.heap z H locs → lv_has ls 8 [(0, .ref b0), (1, .ref (q 0)), (2, .ref (q 4)), (3, .ref (q 51)), (4, .int x4)] → pj_L_law_468 xs L K (fun x4 z => lp_L_law_23 xs L K n23 x4 z) x4 z → W p l e R s m args below meth c H locs ce sl Q (F0 m 468 ls []) := by
        intro x4 z H locs ls ce sl hce hsl hV hl h
        unfold pj_L_law_468 at h
        refine lv_goto (tgt := 932) hx hb dL_law_468 (by decide) ?_
        exact J932 x4 z H locs ls ce sl (by omega) (by omega) hV (lv_sub hl [0, 1, 2, 3, 4] rfl) h
      have J401 : ∀ (x4 : Int32) (z : Sta) (H : Heap) (locs : List Loc) (ls : Array Slot) (ce sl : Nat), ce + n23 ≤ 1092 → sl + 6 * n23 ≤ 10336 → wk_S D q cA A s.heap z H locs → lv_has ls 8 [(0, .ref b0), (1, .ref (q 0)), (2, .ref (q 4)), (3, .ref (q 51)), (4, .int x4)] → pj_L_law_401 xs L K (fun x4 z => lp_L_law_23 xs L K n23 x4 z) x4 z → W p l e R s m args below meth c H locs ce sl Q (F0 m 401 ls []) := by
        intro x4 z H locs ls ce sl hce hsl hV hl h
        unfold pj_L_law_401 at h
        refine lv_goto (tgt := 932) hx hb dL_law_401 (by decide) ?_
        exact J932 x4 z H locs ls ce sl (by omega) (by omega) hV (lv_sub hl [0, 1, 2, 3, 4] rfl) h
      have J357 : ∀ (x4 : Int32) (z : Sta) (H : Heap) (locs : List Loc) (ls : Array Slot) (ce sl : Nat), ce + n23 ≤ 1092 → sl + 6 * n23 ≤ 10336 → wk_S D q cA A s.heap z H locs → lv_has ls 8 [(0, .ref b0), (1, .ref (q 0)), (2, .ref (q 4)), (3, .ref (q 51)), (4, .int x4)] → pj_L_law_357 xs L K (fun x4 z => lp_L_law_23 xs L K n23 x4 z) x4 z → W p l e R s m args below meth c H locs ce sl Q (F0 m 357 ls []) := by
        intro x4 z H locs ls ce sl hce hsl hV hl h
        unfold pj_L_law_357 at h
        refine lv_goto (tgt := 932) hx hb dL_law_357 (by decide) ?_
        exact J932 x4 z H locs ls ce sl (by omega) (by omega) hV (lv_sub hl [0, 1, 2, 3, 4] rfl) h
      have J253 : ∀ (x4 : Int32) (z : Sta) (H : Heap) (locs : List Loc) (ls : Array Slot) (ce sl : Nat), ce + n23 ≤ 1092 → sl + 6 * n23 ≤ 10336 → wk_S D q cA A s.heap z H locs → lv_has ls 8 [(0, .ref b0), (1, .ref (q 0)), (2, .ref (q 4)), (3, .ref (q 51)), (4, .int x4)] → pj_L_law_253 xs L K (fun x4 z => lp_L_law_23 xs L K n23 x4 z) x4 z → W p l e R s m args below meth c H locs ce sl Q (F0 m 253 ls []) := by
        intro x4 z H locs ls ce sl hce hsl hV hl h
        unfold pj_L_law_253 at h
        refine lv_goto (tgt := 932) hx hb dL_law_253 (by decide) ?_
        exact J932 x4 z H locs ls ce sl (by omega) (by omega) hV (lv_sub hl [0, 1, 2, 3, 4] rfl) h
      have J149 : ∀ (x4 : Int32) (z : Sta) (H : Heap) (locs : List Loc) (ls : Array Slot) (ce sl : Nat), ce + n23 ≤ 1092 → sl + 6 * n23 ≤ 10336 → wk_S D q cA A s.heap z H locs → lv_has ls 8 [(0, .ref b0), (1, .ref (q 0)), (2, .ref (q 4)), (3, .ref (q 51)), (4, .int x4)] → pj_L_law_149 xs L K (fun x4 z => lp_L_law_23 xs L K n23 x4 z) x4 z → W p l e R s m args below meth c H locs ce sl Q (F0 m 149 ls []) := by
        intro x4 z H locs ls ce sl hce hsl hV hl h
        unfold pj_L_law_149 at h
        refine lv_goto (tgt := 932) hx hb dL_law_149 (by decide) ?_
        exact J932 x4 z H locs ls ce sl (by omega) (by omega) hV (lv_sub hl [0, 1, 2, 3, 4] rfl) h
      intro x4 z H locs ls ce sl hce hsl hV hl h
      rw [lp_L_law_23] at h
      refine lv_iload hx hb dL_law_23 (lv_at hl 4 rfl) ?_
      refine lv_aload_n hx hb dL_law_25 rfl (lv_at hl 0 rfl) ?_
      refine va_slen hx hb hX hbl hbA hV.2.2 dL_law_26 ?_
      refine lv_topi (fun v1 ev1 => ?_)
      have h := h v1 ev1
      refine lv_bipush (v := 6) hx hb dL_law_27 (by decide) ?_
      refine lv_isub hx hb dL_law_29 ?_
      refine lv_topi (fun v2 ev2 => ?_)
      have h := h v2 ev2
      refine lv_icmp_gt (tgt := 938) hx hb dL_law_30 (by decide) (fun hc => ?_) (fun hc => ?_)
      · have h := h.1 hc
        refine lv_iconst (v := 1) hx hb dL_law_938 (by decide) ?_
        obtain ⟨hz, h⟩ := h
        exact hret 1 z H locs 939 ls ce sl (by omega) (by omega) h hV dL_law_939
      · have h := h.2 hc
        refine lv_aload_n hx hb dL_law_33 rfl (lv_at hl 0 rfl) ?_
        refine lv_iload hx hb dL_law_34 (lv_at hl 4 rfl) ?_
        obtain ⟨hin, h⟩ := h
        refine va_sld hx hb hX hbl hbA hV.2.2 hin dL_law_36 ?_
        refine lv_topi (fun v3 ev3 => ?_)
        have h := h v3 ev3
        refine lv_bipush (v := 15) hx hb dL_law_37 (by decide) ?_
        refine lv_iand hx hb dL_law_39 ?_
        refine lv_topi (fun v4 ev4 => ?_)
        have h := h v4 ev4
        by_cases hc0 : v4 = 0
        · have h := h.1 hc0
          refine lv_tableIn (tgt := 108) hx hb dL_law_40 (by rw [hc0]; decide) (by rw [hc0]; decide) (by rw [hc0]; rfl) (by decide) ?_
          refine lv_aload_n hx hb dL_law_108 rfl (lv_at hl 1 rfl) ?_
          refine lv_aload_n hx hb dL_law_109 rfl (lv_at hl 3 rfl) ?_
          refine wk_callm (vx_runSW (As := [.ref (q 0), .ref (q 51)]) (rest := []) ⟨hx, hb, hml, hown, hts⟩ (c_L_block l hst D q cA SA z H.size _ h) (vx_cwSW 2 hts gs_L_62 rfl rfl rfl (by decide +kernel) ⟨Nat.le_trans (by decide) hRf, Nat.le_trans (by decide) hRl⟩) (wk_preSL hK hV hA hXL [.ref (q 0), .ref (q 51)]) rfl rfl hl.1 rfl (lv_room (Nat.le_of_ble_eq_true rfl)) dL_law_110 ⟨Nat.le_trans (show ce + 1 ≤ 1092 by omega) hRc, Nat.le_trans (show sl + 6 ≤ 10336 by omega) hRs⟩) hV hA (fun rz5 z5 H locs h hV => ?_)
          have hce : (ce + 1) + n23 ≤ 1092 := by omega
          have hsl : (sl + 6) + 6 * n23 ≤ 10336 := by omega
          generalize ce + 1 = ce at hce ⊢
          generalize sl + 6 = sl at hsl ⊢
          refine lv_istore hx hb dL_law_113 hl (by decide) rfl (fun ls hl => ?_)
          have hl : lv_has ls 8 [(5, .int rz5), (0, .ref b0), (1, .ref (q 0)), (2, .ref (q 4)), (3, .ref (q 51)), (4, .int x4)] := hl
          refine lv_aload_n hx hb dL_law_115 rfl (lv_at hl 3 rfl) ?_
          refine wk_calli (va_runV (As := []) (rest := []) ⟨hx, hb, hml, hown, hts⟩ (c_M_block l D q cA z5 H.size _ h) (cwV 0 hts gs_L_67 rfl rfl rfl (by decide +kernel) ⟨Nat.le_trans (by decide) hRf, Nat.le_trans (by decide) hRl⟩) (wk_preV hK hV 4 4 rfl rfl []) rfl rfl hl.1 rfl (lv_room (Nat.le_of_ble_eq_true rfl)) dL_law_116 ⟨Nat.le_trans (show ce + 0 ≤ 1092 by omega) hRc, Nat.le_trans (show sl + 0 ≤ 10336 by omega) hRs⟩) hV hA (fun rz6 z6 H locs h hV => ?_)
          refine lv_istore hx hb dL_law_119 hl (by decide) rfl (fun ls hl => ?_)
          have hl : lv_has ls 8 [(6, .int rz6), (5, .int rz5), (0, .ref b0), (1, .ref (q 0)), (2, .ref (q 4)), (3, .ref (q 51)), (4, .int x4)] := hl
          refine lv_aload_n hx hb dL_law_121 rfl (lv_at hl 4 rfl) ?_
          refine wk_calli (va_runV (As := []) (rest := []) ⟨hx, hb, hml, hown, hts⟩ (c_M_thrown l D q cA z6 H.size _ h) (cwV 0 hts gs_L_68 rfl rfl rfl (by decide +kernel) ⟨Nat.le_trans (by decide) hRf, Nat.le_trans (by decide) hRl⟩) (wk_preV hK hV 4 4 rfl rfl []) rfl rfl hl.1 rfl (lv_room (Nat.le_of_ble_eq_true rfl)) dL_law_122 ⟨Nat.le_trans (show ce + 0 ≤ 1092 by omega) hRc, Nat.le_trans (show sl + 0 ≤ 10336 by omega) hRs⟩) hV hA (fun rz7 z7 H locs h hV => ?_)
          refine lv_iload hx hb dL_law_125 (lv_at hl 1 rfl) ?_
          refine lv_icmp_eq (tgt := 132) hx hb dL_law_127 (by decide) (fun hc => ?_) (fun hc => ?_)
          · have h := h.1 hc
            refine lv_iload hx hb dL_law_132 (lv_at hl 1 rfl) ?_
            refine lv_if_ne (tgt := 149) hx hb dL_law_134 (by decide) (fun hc => ?_) (fun hc => ?_)
            · have h := h.1 hc
              exact J149 x4 z7 H locs ls ce sl (by omega) (by omega) hV (lv_sub hl [2, 3, 4, 5, 6] rfl) h
            · have h := h.2 hc
              refine lv_aload_n hx hb dL_law_137 rfl (lv_at hl 5 rfl) ?_
              refine lv_iconst (v := 0) hx hb dL_law_138 (by decide) ?_
              obtain ⟨hin, h⟩ := h
              refine va_lald hx hb hK hV.1 51 46 rfl rfl hin dL_law_139 ?_
              refine lv_topl (fun v8 ev8 => ?_)
              have h := h v8 ev8
              refine lv_iload hx hb dL_law_140 (lv_at hl 0 rfl) ?_
              refine lv_i2l hx hb dL_law_142 rfl ?_
              refine lv_topl (fun v9 ev9 => ?_)
              have h := h v9 ev9
              refine W.lcmp hx hb dL_law_143 ?_
              refine lv_topi (fun v10 ev10 => ?_)
              have h := h v10 ev10
              refine lv_if_eq (tgt := 149) hx hb dL_law_144 (by decide) (fun hc => ?_) (fun hc => ?_)
              · have h := h.1 hc
                exact J149 x4 z7 H locs ls ce sl (by omega) (by omega) hV (lv_sub hl [2, 3, 4, 5, 6] rfl) h
              · have h := h.2 hc
                refine lv_iconst (v := 0) hx hb dL_law_147 (by decide) ?_
                obtain ⟨hz, h⟩ := h
                exact hret 0 z7 H locs 148 ls ce sl (by omega) (by omega) h hV dL_law_148
          · have h := h.2 hc
            refine lv_iconst (v := 0) hx hb dL_law_130 (by decide) ?_
            obtain ⟨hz, h⟩ := h
            exact hret 0 z7 H locs 131 ls ce sl (by omega) (by omega) h hV dL_law_131
        by_cases hc1 : v4 = 1
        · have h := h.2.1 hc1
          refine lv_tableIn (tgt := 152) hx hb dL_law_40 (by rw [hc1]; decide) (by rw [hc1]; decide) (by rw [hc1]; rfl) (by decide) ?_
          refine lv_aload_n hx hb dL_law_152 rfl (lv_at hl 1 rfl) ?_
          refine lv_aload_n hx hb dL_law_153 rfl (lv_at hl 0 rfl) ?_
          refine lv_iload hx hb dL_law_154 (lv_at hl 4 rfl) ?_
          refine lv_iconst (v := 1) hx hb dL_law_156 (by decide) ?_
          refine lv_iadd hx hb dL_law_157 ?_
          refine lv_topi (fun v11 ev11 => ?_)
          have h := h v11 ev11
          obtain ⟨hin, h⟩ := h
          refine va_sld hx hb hX hbl hbA hV.2.2 hin dL_law_158 ?_
          refine lv_topi (fun v12 ev12 => ?_)
          have h := h v12 ev12
          refine lv_aload_n hx hb dL_law_159 rfl (lv_at hl 0 rfl) ?_
          refine lv_iload hx hb dL_law_160 (lv_at hl 4 rfl) ?_
          refine lv_iconst (v := 2) hx hb dL_law_162 (by decide) ?_
          refine lv_iadd hx hb dL_law_163 ?_
          refine lv_topi (fun v13 ev13 => ?_)
          have h := h v13 ev13
          obtain ⟨hin, h⟩ := h
          refine va_sld hx hb hX hbl hbA hV.2.2 hin dL_law_164 ?_
          refine lv_topi (fun v14 ev14 => ?_)
          have h := h v14 ev14
          refine lv_aload_n hx hb dL_law_165 rfl (lv_at hl 0 rfl) ?_
          refine lv_iload hx hb dL_law_166 (lv_at hl 4 rfl) ?_
          refine lv_iconst (v := 3) hx hb dL_law_168 (by decide) ?_
          refine lv_iadd hx hb dL_law_169 ?_
          refine lv_topi (fun v15 ev15 => ?_)
          have h := h v15 ev15
          obtain ⟨hin, h⟩ := h
          refine va_sld hx hb hX hbl hbA hV.2.2 hin dL_law_170 ?_
          refine lv_topi (fun v16 ev16 => ?_)
          have h := h v16 ev16
          refine lv_aload_n hx hb dL_law_171 rfl (lv_at hl 0 rfl) ?_
          refine lv_iload hx hb dL_law_172 (lv_at hl 4 rfl) ?_
          refine lv_iconst (v := 4) hx hb dL_law_174 (by decide) ?_
          refine lv_iadd hx hb dL_law_175 ?_
          refine lv_topi (fun v17 ev17 => ?_)
          have h := h v17 ev17
          obtain ⟨hin, h⟩ := h
          refine va_sld hx hb hX hbl hbA hV.2.2 hin dL_law_176 ?_
          refine lv_topi (fun v18 ev18 => ?_)
          have h := h v18 ev18
          refine lv_aload_n hx hb dL_law_177 rfl (lv_at hl 0 rfl) ?_
          refine lv_iload hx hb dL_law_178 (lv_at hl 4 rfl) ?_
          refine lv_iconst (v := 5) hx hb dL_law_180 (by decide) ?_
          refine lv_iadd hx hb dL_law_181 ?_
          refine lv_topi (fun v19 ev19 => ?_)
          have h := h v19 ev19
          obtain ⟨hin, h⟩ := h
          refine va_sld hx hb hX hbl hbA hV.2.2 hin dL_law_182 ?_
          refine lv_topi (fun v20 ev20 => ?_)
          have h := h v20 ev20
          refine lv_aload_n hx hb dL_law_183 rfl (lv_at hl 3 rfl) ?_
          refine wk_callm (vx_runSW (As := [.ref (q 0), .int v12, .int v14, .int v16, .int v18, .int v20, .ref (q 51)]) (rest := []) ⟨hx, hb, hml, hown, hts⟩ (c_L_statement l hst D q cA SA v12 v14 v16 v18 v20 z H.size _ h) (vx_cwSW 7 hts gs_L_71 rfl rfl rfl (by decide +kernel) ⟨Nat.le_trans (by decide) hRf, Nat.le_trans (by decide) hRl⟩) (wk_preSL hK hV hA hXL [.ref (q 0), .int v12, .int v14, .int v16, .int v18, .int v20, .ref (q 51)]) rfl rfl hl.1 rfl (lv_room (Nat.le_of_ble_eq_true rfl)) dL_law_184 ⟨Nat.le_trans (show ce + 1 ≤ 1092 by omega) hRc, Nat.le_trans (show sl + 6 ≤ 10336 by omega) hRs⟩) hV hA (fun rz21 z21 H locs h hV => ?_)
          have hce : (ce + 1) + n23 ≤ 1092 := by omega
          have hsl : (sl + 6) + 6 * n23 ≤ 10336 := by omega
          generalize ce + 1 = ce at hce ⊢
          generalize sl + 6 = sl at hsl ⊢
          refine lv_istore hx hb dL_law_187 hl (by decide) rfl (fun ls hl => ?_)
          have hl : lv_has ls 8 [(5, .int rz21), (0, .ref b0), (1, .ref (q 0)), (2, .ref (q 4)), (3, .ref (q 51)), (4, .int x4)] := hl
          refine lv_aload_n hx hb dL_law_189 rfl (lv_at hl 3 rfl) ?_
          refine lv_aload_n hx hb dL_law_190 rfl (lv_at hl 1 rfl) ?_
          refine lv_iload hx hb dL_law_191 (lv_at hl 5 rfl) ?_
          refine lv_iconst (v := 1) hx hb dL_law_193 (by decide) ?_
          refine lv_iadd hx hb dL_law_194 ?_
          refine lv_topi (fun v22 ev22 => ?_)
          have h := h v22 ev22
          obtain ⟨hin, h⟩ := h
          refine va_sld hx hb hX hbl hbA hV.2.2 hin dL_law_195 ?_
          refine lv_topi (fun v23 ev23 => ?_)
          have h := h v23 ev23
          refine lv_aload_n hx hb dL_law_196 rfl (lv_at hl 1 rfl) ?_
          refine lv_iload hx hb dL_law_197 (lv_at hl 5 rfl) ?_
          refine lv_iconst (v := 2) hx hb dL_law_199 (by decide) ?_
          refine lv_iadd hx hb dL_law_200 ?_
          refine lv_topi (fun v24 ev24 => ?_)
          have h := h v24 ev24
          obtain ⟨hin, h⟩ := h
          refine va_sld hx hb hX hbl hbA hV.2.2 hin dL_law_201 ?_
          refine lv_topi (fun v25 ev25 => ?_)
          have h := h v25 ev25
          refine lv_aload_n hx hb dL_law_202 rfl (lv_at hl 1 rfl) ?_
          refine lv_iload hx hb dL_law_203 (lv_at hl 5 rfl) ?_
          refine lv_iconst (v := 3) hx hb dL_law_205 (by decide) ?_
          refine lv_iadd hx hb dL_law_206 ?_
          refine lv_topi (fun v26 ev26 => ?_)
          have h := h v26 ev26
          obtain ⟨hin, h⟩ := h
          refine va_sld hx hb hX hbl hbA hV.2.2 hin dL_law_207 ?_
          refine lv_topi (fun v27 ev27 => ?_)
          have h := h v27 ev27
          refine lv_aload_n hx hb dL_law_208 rfl (lv_at hl 1 rfl) ?_
          refine lv_iload hx hb dL_law_209 (lv_at hl 5 rfl) ?_
          refine lv_iconst (v := 4) hx hb dL_law_211 (by decide) ?_
          refine lv_iadd hx hb dL_law_212 ?_
          refine lv_topi (fun v28 ev28 => ?_)
          have h := h v28 ev28
          obtain ⟨hin, h⟩ := h
          refine va_sld hx hb hX hbl hbA hV.2.2 hin dL_law_213 ?_
          refine lv_topi (fun v29 ev29 => ?_)
          have h := h v29 ev29
          refine lv_aload_n hx hb dL_law_214 rfl (lv_at hl 1 rfl) ?_
          refine lv_iload hx hb dL_law_215 (lv_at hl 5 rfl) ?_
          refine lv_iconst (v := 5) hx hb dL_law_217 (by decide) ?_
          refine lv_iadd hx hb dL_law_218 ?_
          refine lv_topi (fun v30 ev30 => ?_)
          have h := h v30 ev30
          obtain ⟨hin, h⟩ := h
          refine va_sld hx hb hX hbl hbA hV.2.2 hin dL_law_219 ?_
          refine lv_topi (fun v31 ev31 => ?_)
          have h := h v31 ev31
          refine wk_calli (va_runV (As := [.int v23, .int v25, .int v27, .int v29, .int v31]) (rest := []) ⟨hx, hb, hml, hown, hts⟩ (c_M_statement l D q cA v23 v25 v27 v29 v31 z21 H.size _ h) (cwV 5 hts gs_L_74 rfl rfl rfl (by decide +kernel) ⟨Nat.le_trans (by decide) hRf, Nat.le_trans (by decide) hRl⟩) (wk_preV hK hV 4 4 rfl rfl [.int v23, .int v25, .int v27, .int v29, .int v31]) rfl rfl hl.1 rfl (lv_room (Nat.le_of_ble_eq_true rfl)) dL_law_220 ⟨Nat.le_trans (show ce + 0 ≤ 1092 by omega) hRc, Nat.le_trans (show sl + 0 ≤ 10336 by omega) hRs⟩) hV hA (fun rz32 z32 H locs h hV => ?_)
          refine lv_istore hx hb dL_law_223 hl (by decide) rfl (fun ls hl => ?_)
          have hl : lv_has ls 8 [(6, .int rz32), (5, .int rz21), (0, .ref b0), (1, .ref (q 0)), (2, .ref (q 4)), (3, .ref (q 51)), (4, .int x4)] := hl
          refine lv_aload_n hx hb dL_law_225 rfl (lv_at hl 4 rfl) ?_
          refine wk_calli (va_runV (As := []) (rest := []) ⟨hx, hb, hml, hown, hts⟩ (c_M_thrown l D q cA z32 H.size _ h) (cwV 0 hts gs_L_68 rfl rfl rfl (by decide +kernel) ⟨Nat.le_trans (by decide) hRf, Nat.le_trans (by decide) hRl⟩) (wk_preV hK hV 4 4 rfl rfl []) rfl rfl hl.1 rfl (lv_room (Nat.le_of_ble_eq_true rfl)) dL_law_226 ⟨Nat.le_trans (show ce + 0 ≤ 1092 by omega) hRc, Nat.le_trans (show sl + 0 ≤ 10336 by omega) hRs⟩) hV hA (fun rz33 z33 H locs h hV => ?_)
          refine lv_iload hx hb dL_law_229 (lv_at hl 1 rfl) ?_
          refine lv_icmp_eq (tgt := 236) hx hb dL_law_231 (by decide) (fun hc => ?_) (fun hc => ?_)
          · have h := h.1 hc
            refine lv_iload hx hb dL_law_236 (lv_at hl 1 rfl) ?_
            refine lv_if_ne (tgt := 253) hx hb dL_law_238 (by decide) (fun hc => ?_) (fun hc => ?_)
            · have h := h.1 hc
              exact J253 x4 z33 H locs ls ce sl (by omega) (by omega) hV (lv_sub hl [2, 3, 4, 5, 6] rfl) h
            · have h := h.2 hc
              refine lv_aload_n hx hb dL_law_241 rfl (lv_at hl 5 rfl) ?_
              refine lv_iconst (v := 0) hx hb dL_law_242 (by decide) ?_
              obtain ⟨hin, h⟩ := h
              refine va_lald hx hb hK hV.1 51 46 rfl rfl hin dL_law_243 ?_
              refine lv_topl (fun v34 ev34 => ?_)
              have h := h v34 ev34
              refine lv_iload hx hb dL_law_244 (lv_at hl 0 rfl) ?_
              refine lv_i2l hx hb dL_law_246 rfl ?_
              refine lv_topl (fun v35 ev35 => ?_)
              have h := h v35 ev35
              refine W.lcmp hx hb dL_law_247 ?_
              refine lv_topi (fun v36 ev36 => ?_)
              have h := h v36 ev36
              refine lv_if_eq (tgt := 253) hx hb dL_law_248 (by decide) (fun hc => ?_) (fun hc => ?_)
              · have h := h.1 hc
                exact J253 x4 z33 H locs ls ce sl (by omega) (by omega) hV (lv_sub hl [2, 3, 4, 5, 6] rfl) h
              · have h := h.2 hc
                refine lv_iconst (v := 0) hx hb dL_law_251 (by decide) ?_
                obtain ⟨hz, h⟩ := h
                exact hret 0 z33 H locs 252 ls ce sl (by omega) (by omega) h hV dL_law_252
          · have h := h.2 hc
            refine lv_iconst (v := 0) hx hb dL_law_234 (by decide) ?_
            obtain ⟨hz, h⟩ := h
            exact hret 0 z33 H locs 235 ls ce sl (by omega) (by omega) h hV dL_law_235
        by_cases hc2 : v4 = 2
        · have h := h.2.2.1 hc2
          refine lv_tableIn (tgt := 256) hx hb dL_law_40 (by rw [hc2]; decide) (by rw [hc2]; decide) (by rw [hc2]; rfl) (by decide) ?_
          refine lv_aload_n hx hb dL_law_256 rfl (lv_at hl 1 rfl) ?_
          refine lv_aload_n hx hb dL_law_257 rfl (lv_at hl 0 rfl) ?_
          refine lv_iload hx hb dL_law_258 (lv_at hl 4 rfl) ?_
          refine lv_iconst (v := 1) hx hb dL_law_260 (by decide) ?_
          refine lv_iadd hx hb dL_law_261 ?_
          refine lv_topi (fun v37 ev37 => ?_)
          have h := h v37 ev37
          obtain ⟨hin, h⟩ := h
          refine va_sld hx hb hX hbl hbA hV.2.2 hin dL_law_262 ?_
          refine lv_topi (fun v38 ev38 => ?_)
          have h := h v38 ev38
          refine lv_aload_n hx hb dL_law_263 rfl (lv_at hl 0 rfl) ?_
          refine lv_iload hx hb dL_law_264 (lv_at hl 4 rfl) ?_
          refine lv_iconst (v := 2) hx hb dL_law_266 (by decide) ?_
          refine lv_iadd hx hb dL_law_267 ?_
          refine lv_topi (fun v39 ev39 => ?_)
          have h := h v39 ev39
          obtain ⟨hin, h⟩ := h
          refine va_sld hx hb hX hbl hbA hV.2.2 hin dL_law_268 ?_
          refine lv_topi (fun v40 ev40 => ?_)
          have h := h v40 ev40
          refine lv_aload_n hx hb dL_law_269 rfl (lv_at hl 0 rfl) ?_
          refine lv_iload hx hb dL_law_270 (lv_at hl 4 rfl) ?_
          refine lv_iconst (v := 3) hx hb dL_law_272 (by decide) ?_
          refine lv_iadd hx hb dL_law_273 ?_
          refine lv_topi (fun v41 ev41 => ?_)
          have h := h v41 ev41
          obtain ⟨hin, h⟩ := h
          refine va_sld hx hb hX hbl hbA hV.2.2 hin dL_law_274 ?_
          refine lv_topi (fun v42 ev42 => ?_)
          have h := h v42 ev42
          refine lv_aload_n hx hb dL_law_275 rfl (lv_at hl 0 rfl) ?_
          refine lv_iload hx hb dL_law_276 (lv_at hl 4 rfl) ?_
          refine lv_iconst (v := 4) hx hb dL_law_278 (by decide) ?_
          refine lv_iadd hx hb dL_law_279 ?_
          refine lv_topi (fun v43 ev43 => ?_)
          have h := h v43 ev43
          obtain ⟨hin, h⟩ := h
          refine va_sld hx hb hX hbl hbA hV.2.2 hin dL_law_280 ?_
          refine lv_topi (fun v44 ev44 => ?_)
          have h := h v44 ev44
          refine lv_aload_n hx hb dL_law_281 rfl (lv_at hl 0 rfl) ?_
          refine lv_iload hx hb dL_law_282 (lv_at hl 4 rfl) ?_
          refine lv_iconst (v := 5) hx hb dL_law_284 (by decide) ?_
          refine lv_iadd hx hb dL_law_285 ?_
          refine lv_topi (fun v45 ev45 => ?_)
          have h := h v45 ev45
          obtain ⟨hin, h⟩ := h
          refine va_sld hx hb hX hbl hbA hV.2.2 hin dL_law_286 ?_
          refine lv_topi (fun v46 ev46 => ?_)
          have h := h v46 ev46
          refine lv_aload_n hx hb dL_law_287 rfl (lv_at hl 3 rfl) ?_
          refine wk_callm (vx_runSW (As := [.ref (q 0), .int v38, .int v40, .int v42, .int v44, .int v46, .ref (q 51)]) (rest := []) ⟨hx, hb, hml, hown, hts⟩ (c_L_end l hst D q cA SA v38 v40 v42 v44 v46 z H.size _ h) (vx_cwSW 7 hts gs_L_75 rfl rfl rfl (by decide +kernel) ⟨Nat.le_trans (by decide) hRf, Nat.le_trans (by decide) hRl⟩) (wk_preSL hK hV hA hXL [.ref (q 0), .int v38, .int v40, .int v42, .int v44, .int v46, .ref (q 51)]) rfl rfl hl.1 rfl (lv_room (Nat.le_of_ble_eq_true rfl)) dL_law_288 ⟨Nat.le_trans (show ce + 1 ≤ 1092 by omega) hRc, Nat.le_trans (show sl + 6 ≤ 10336 by omega) hRs⟩) hV hA (fun rz47 z47 H locs h hV => ?_)
          have hce : (ce + 1) + n23 ≤ 1092 := by omega
          have hsl : (sl + 6) + 6 * n23 ≤ 10336 := by omega
          generalize ce + 1 = ce at hce ⊢
          generalize sl + 6 = sl at hsl ⊢
          refine lv_istore hx hb dL_law_291 hl (by decide) rfl (fun ls hl => ?_)
          have hl : lv_has ls 8 [(5, .int rz47), (0, .ref b0), (1, .ref (q 0)), (2, .ref (q 4)), (3, .ref (q 51)), (4, .int x4)] := hl
          refine lv_aload_n hx hb dL_law_293 rfl (lv_at hl 3 rfl) ?_
          refine lv_aload_n hx hb dL_law_294 rfl (lv_at hl 1 rfl) ?_
          refine lv_iload hx hb dL_law_295 (lv_at hl 5 rfl) ?_
          refine lv_iconst (v := 1) hx hb dL_law_297 (by decide) ?_
          refine lv_iadd hx hb dL_law_298 ?_
          refine lv_topi (fun v48 ev48 => ?_)
          have h := h v48 ev48
          obtain ⟨hin, h⟩ := h
          refine va_sld hx hb hX hbl hbA hV.2.2 hin dL_law_299 ?_
          refine lv_topi (fun v49 ev49 => ?_)
          have h := h v49 ev49
          refine lv_aload_n hx hb dL_law_300 rfl (lv_at hl 1 rfl) ?_
          refine lv_iload hx hb dL_law_301 (lv_at hl 5 rfl) ?_
          refine lv_iconst (v := 2) hx hb dL_law_303 (by decide) ?_
          refine lv_iadd hx hb dL_law_304 ?_
          refine lv_topi (fun v50 ev50 => ?_)
          have h := h v50 ev50
          obtain ⟨hin, h⟩ := h
          refine va_sld hx hb hX hbl hbA hV.2.2 hin dL_law_305 ?_
          refine lv_topi (fun v51 ev51 => ?_)
          have h := h v51 ev51
          refine lv_aload_n hx hb dL_law_306 rfl (lv_at hl 1 rfl) ?_
          refine lv_iload hx hb dL_law_307 (lv_at hl 5 rfl) ?_
          refine lv_iconst (v := 3) hx hb dL_law_309 (by decide) ?_
          refine lv_iadd hx hb dL_law_310 ?_
          refine lv_topi (fun v52 ev52 => ?_)
          have h := h v52 ev52
          obtain ⟨hin, h⟩ := h
          refine va_sld hx hb hX hbl hbA hV.2.2 hin dL_law_311 ?_
          refine lv_topi (fun v53 ev53 => ?_)
          have h := h v53 ev53
          refine lv_aload_n hx hb dL_law_312 rfl (lv_at hl 1 rfl) ?_
          refine lv_iload hx hb dL_law_313 (lv_at hl 5 rfl) ?_
          refine lv_iconst (v := 4) hx hb dL_law_315 (by decide) ?_
          refine lv_iadd hx hb dL_law_316 ?_
          refine lv_topi (fun v54 ev54 => ?_)
          have h := h v54 ev54
          obtain ⟨hin, h⟩ := h
          refine va_sld hx hb hX hbl hbA hV.2.2 hin dL_law_317 ?_
          refine lv_topi (fun v55 ev55 => ?_)
          have h := h v55 ev55
          refine lv_aload_n hx hb dL_law_318 rfl (lv_at hl 1 rfl) ?_
          refine lv_iload hx hb dL_law_319 (lv_at hl 5 rfl) ?_
          refine lv_iconst (v := 5) hx hb dL_law_321 (by decide) ?_
          refine lv_iadd hx hb dL_law_322 ?_
          refine lv_topi (fun v56 ev56 => ?_)
          have h := h v56 ev56
          obtain ⟨hin, h⟩ := h
          refine va_sld hx hb hX hbl hbA hV.2.2 hin dL_law_323 ?_
          refine lv_topi (fun v57 ev57 => ?_)
          have h := h v57 ev57
          refine wk_calli (va_runV (As := [.int v49, .int v51, .int v53, .int v55, .int v57]) (rest := []) ⟨hx, hb, hml, hown, hts⟩ (c_M_end l D q cA v49 v51 v53 v55 v57 z47 H.size _ h) (cwV 5 hts gs_L_77 rfl rfl rfl (by decide +kernel) ⟨Nat.le_trans (by decide) hRf, Nat.le_trans (by decide) hRl⟩) (wk_preV hK hV 4 4 rfl rfl [.int v49, .int v51, .int v53, .int v55, .int v57]) rfl rfl hl.1 rfl (lv_room (Nat.le_of_ble_eq_true rfl)) dL_law_324 ⟨Nat.le_trans (show ce + 0 ≤ 1092 by omega) hRc, Nat.le_trans (show sl + 0 ≤ 10336 by omega) hRs⟩) hV hA (fun rz58 z58 H locs h hV => ?_)
          refine lv_istore hx hb dL_law_327 hl (by decide) rfl (fun ls hl => ?_)
          have hl : lv_has ls 8 [(6, .int rz58), (5, .int rz47), (0, .ref b0), (1, .ref (q 0)), (2, .ref (q 4)), (3, .ref (q 51)), (4, .int x4)] := hl
          refine lv_aload_n hx hb dL_law_329 rfl (lv_at hl 4 rfl) ?_
          refine wk_calli (va_runV (As := []) (rest := []) ⟨hx, hb, hml, hown, hts⟩ (c_M_thrown l D q cA z58 H.size _ h) (cwV 0 hts gs_L_68 rfl rfl rfl (by decide +kernel) ⟨Nat.le_trans (by decide) hRf, Nat.le_trans (by decide) hRl⟩) (wk_preV hK hV 4 4 rfl rfl []) rfl rfl hl.1 rfl (lv_room (Nat.le_of_ble_eq_true rfl)) dL_law_330 ⟨Nat.le_trans (show ce + 0 ≤ 1092 by omega) hRc, Nat.le_trans (show sl + 0 ≤ 10336 by omega) hRs⟩) hV hA (fun rz59 z59 H locs h hV => ?_)
          refine lv_iload hx hb dL_law_333 (lv_at hl 1 rfl) ?_
          refine lv_icmp_eq (tgt := 340) hx hb dL_law_335 (by decide) (fun hc => ?_) (fun hc => ?_)
          · have h := h.1 hc
            refine lv_iload hx hb dL_law_340 (lv_at hl 1 rfl) ?_
            refine lv_if_ne (tgt := 357) hx hb dL_law_342 (by decide) (fun hc => ?_) (fun hc => ?_)
            · have h := h.1 hc
              exact J357 x4 z59 H locs ls ce sl (by omega) (by omega) hV (lv_sub hl [2, 3, 4, 5, 6] rfl) h
            · have h := h.2 hc
              refine lv_aload_n hx hb dL_law_345 rfl (lv_at hl 5 rfl) ?_
              refine lv_iconst (v := 0) hx hb dL_law_346 (by decide) ?_
              obtain ⟨hin, h⟩ := h
              refine va_lald hx hb hK hV.1 51 46 rfl rfl hin dL_law_347 ?_
              refine lv_topl (fun v60 ev60 => ?_)
              have h := h v60 ev60
              refine lv_iload hx hb dL_law_348 (lv_at hl 0 rfl) ?_
              refine lv_i2l hx hb dL_law_350 rfl ?_
              refine lv_topl (fun v61 ev61 => ?_)
              have h := h v61 ev61
              refine W.lcmp hx hb dL_law_351 ?_
              refine lv_topi (fun v62 ev62 => ?_)
              have h := h v62 ev62
              refine lv_if_eq (tgt := 357) hx hb dL_law_352 (by decide) (fun hc => ?_) (fun hc => ?_)
              · have h := h.1 hc
                exact J357 x4 z59 H locs ls ce sl (by omega) (by omega) hV (lv_sub hl [2, 3, 4, 5, 6] rfl) h
              · have h := h.2 hc
                refine lv_iconst (v := 0) hx hb dL_law_355 (by decide) ?_
                obtain ⟨hz, h⟩ := h
                exact hret 0 z59 H locs 356 ls ce sl (by omega) (by omega) h hV dL_law_356
          · have h := h.2 hc
            refine lv_iconst (v := 0) hx hb dL_law_338 (by decide) ?_
            obtain ⟨hz, h⟩ := h
            exact hret 0 z59 H locs 339 ls ce sl (by omega) (by omega) h hV dL_law_339
        by_cases hc3 : v4 = 3
        · have h := h.2.2.2.1 hc3
          refine lv_tableIn (tgt := 360) hx hb dL_law_40 (by rw [hc3]; decide) (by rw [hc3]; decide) (by rw [hc3]; rfl) (by decide) ?_
          refine lv_aload_n hx hb dL_law_360 rfl (lv_at hl 1 rfl) ?_
          refine lv_aload_n hx hb dL_law_361 rfl (lv_at hl 3 rfl) ?_
          refine wk_callm (vx_runSW (As := [.ref (q 0), .ref (q 51)]) (rest := []) ⟨hx, hb, hml, hown, hts⟩ (c_L_plan l hst D q cA SA z H.size _ h) (vx_cwSW 2 hts gs_L_78 rfl rfl rfl (by decide +kernel) ⟨Nat.le_trans (by decide) hRf, Nat.le_trans (by decide) hRl⟩) (wk_preSL hK hV hA hXL [.ref (q 0), .ref (q 51)]) rfl rfl hl.1 rfl (lv_room (Nat.le_of_ble_eq_true rfl)) dL_law_362 ⟨Nat.le_trans (show ce + 1 ≤ 1092 by omega) hRc, Nat.le_trans (show sl + 6 ≤ 10336 by omega) hRs⟩) hV hA (fun rz63 z63 H locs h hV => ?_)
          have hce : (ce + 1) + n23 ≤ 1092 := by omega
          have hsl : (sl + 6) + 6 * n23 ≤ 10336 := by omega
          generalize ce + 1 = ce at hce ⊢
          generalize sl + 6 = sl at hsl ⊢
          refine lv_istore hx hb dL_law_365 hl (by decide) rfl (fun ls hl => ?_)
          have hl : lv_has ls 8 [(5, .int rz63), (0, .ref b0), (1, .ref (q 0)), (2, .ref (q 4)), (3, .ref (q 51)), (4, .int x4)] := hl
          refine lv_aload_n hx hb dL_law_367 rfl (lv_at hl 3 rfl) ?_
          refine wk_calli (va_runV (As := []) (rest := []) ⟨hx, hb, hml, hown, hts⟩ (c_M_plan l D q cA z63 H.size _ h) (cwV 0 hts gs_L_80 rfl rfl rfl (by decide +kernel) ⟨Nat.le_trans (by decide) hRf, Nat.le_trans (by decide) hRl⟩) (wk_preV hK hV 4 4 rfl rfl []) rfl rfl hl.1 rfl (lv_room (Nat.le_of_ble_eq_true rfl)) dL_law_368 ⟨Nat.le_trans (show ce + 0 ≤ 1092 by omega) hRc, Nat.le_trans (show sl + 0 ≤ 10336 by omega) hRs⟩) hV hA (fun rz64 z64 H locs h hV => ?_)
          refine lv_istore hx hb dL_law_371 hl (by decide) rfl (fun ls hl => ?_)
          have hl : lv_has ls 8 [(6, .int rz64), (5, .int rz63), (0, .ref b0), (1, .ref (q 0)), (2, .ref (q 4)), (3, .ref (q 51)), (4, .int x4)] := hl
          refine lv_aload_n hx hb dL_law_373 rfl (lv_at hl 4 rfl) ?_
          refine wk_calli (va_runV (As := []) (rest := []) ⟨hx, hb, hml, hown, hts⟩ (c_M_thrown l D q cA z64 H.size _ h) (cwV 0 hts gs_L_68 rfl rfl rfl (by decide +kernel) ⟨Nat.le_trans (by decide) hRf, Nat.le_trans (by decide) hRl⟩) (wk_preV hK hV 4 4 rfl rfl []) rfl rfl hl.1 rfl (lv_room (Nat.le_of_ble_eq_true rfl)) dL_law_374 ⟨Nat.le_trans (show ce + 0 ≤ 1092 by omega) hRc, Nat.le_trans (show sl + 0 ≤ 10336 by omega) hRs⟩) hV hA (fun rz65 z65 H locs h hV => ?_)
          refine lv_iload hx hb dL_law_377 (lv_at hl 1 rfl) ?_
          refine lv_icmp_eq (tgt := 384) hx hb dL_law_379 (by decide) (fun hc => ?_) (fun hc => ?_)
          · have h := h.1 hc
            refine lv_iload hx hb dL_law_384 (lv_at hl 1 rfl) ?_
            refine lv_if_ne (tgt := 401) hx hb dL_law_386 (by decide) (fun hc => ?_) (fun hc => ?_)
            · have h := h.1 hc
              exact J401 x4 z65 H locs ls ce sl (by omega) (by omega) hV (lv_sub hl [2, 3, 4, 5, 6] rfl) h
            · have h := h.2 hc
              refine lv_aload_n hx hb dL_law_389 rfl (lv_at hl 5 rfl) ?_
              refine lv_iconst (v := 0) hx hb dL_law_390 (by decide) ?_
              obtain ⟨hin, h⟩ := h
              refine va_lald hx hb hK hV.1 51 46 rfl rfl hin dL_law_391 ?_
              refine lv_topl (fun v66 ev66 => ?_)
              have h := h v66 ev66
              refine lv_iload hx hb dL_law_392 (lv_at hl 0 rfl) ?_
              refine lv_i2l hx hb dL_law_394 rfl ?_
              refine lv_topl (fun v67 ev67 => ?_)
              have h := h v67 ev67
              refine W.lcmp hx hb dL_law_395 ?_
              refine lv_topi (fun v68 ev68 => ?_)
              have h := h v68 ev68
              refine lv_if_eq (tgt := 401) hx hb dL_law_396 (by decide) (fun hc => ?_) (fun hc => ?_)
              · have h := h.1 hc
                exact J401 x4 z65 H locs ls ce sl (by omega) (by omega) hV (lv_sub hl [2, 3, 4, 5, 6] rfl) h
              · have h := h.2 hc
                refine lv_iconst (v := 0) hx hb dL_law_399 (by decide) ?_
                obtain ⟨hz, h⟩ := h
                exact hret 0 z65 H locs 400 ls ce sl (by omega) (by omega) h hV dL_law_400
          · have h := h.2 hc
            refine lv_iconst (v := 0) hx hb dL_law_382 (by decide) ?_
            obtain ⟨hz, h⟩ := h
            exact hret 0 z65 H locs 383 ls ce sl (by omega) (by omega) h hV dL_law_383
        by_cases hc4 : v4 = 4
        · have h := h.2.2.2.2.1 hc4
          refine lv_tableIn (tgt := 404) hx hb dL_law_40 (by rw [hc4]; decide) (by rw [hc4]; decide) (by rw [hc4]; rfl) (by decide) ?_
          refine lv_aload_n hx hb dL_law_404 rfl (lv_at hl 1 rfl) ?_
          refine lv_aload_n hx hb dL_law_405 rfl (lv_at hl 0 rfl) ?_
          refine lv_iload hx hb dL_law_406 (lv_at hl 4 rfl) ?_
          refine lv_iconst (v := 1) hx hb dL_law_408 (by decide) ?_
          refine lv_iadd hx hb dL_law_409 ?_
          refine lv_topi (fun v69 ev69 => ?_)
          have h := h v69 ev69
          obtain ⟨hin, h⟩ := h
          refine va_sld hx hb hX hbl hbA hV.2.2 hin dL_law_410 ?_
          refine lv_topi (fun v70 ev70 => ?_)
          have h := h v70 ev70
          refine lv_aload_n hx hb dL_law_411 rfl (lv_at hl 0 rfl) ?_
          refine lv_iload hx hb dL_law_412 (lv_at hl 4 rfl) ?_
          refine lv_iconst (v := 2) hx hb dL_law_414 (by decide) ?_
          refine lv_iadd hx hb dL_law_415 ?_
          refine lv_topi (fun v71 ev71 => ?_)
          have h := h v71 ev71
          obtain ⟨hin, h⟩ := h
          refine va_sld hx hb hX hbl hbA hV.2.2 hin dL_law_416 ?_
          refine lv_topi (fun v72 ev72 => ?_)
          have h := h v72 ev72
          refine lv_aload_n hx hb dL_law_417 rfl (lv_at hl 3 rfl) ?_
          refine wk_callm (vx_runSW (As := [.ref (q 0), .int v70, .int v72, .ref (q 51)]) (rest := []) ⟨hx, hb, hml, hown, hts⟩ (c_L_set l hst D q cA SA v70 v72 z H.size _ h) (vx_cwSW 4 hts gs_L_81 rfl rfl rfl (by decide +kernel) ⟨Nat.le_trans (by decide) hRf, Nat.le_trans (by decide) hRl⟩) (wk_preSL hK hV hA hXL [.ref (q 0), .int v70, .int v72, .ref (q 51)]) rfl rfl hl.1 rfl (lv_room (Nat.le_of_ble_eq_true rfl)) dL_law_418 ⟨Nat.le_trans (show ce + 1 ≤ 1092 by omega) hRc, Nat.le_trans (show sl + 6 ≤ 10336 by omega) hRs⟩) hV hA (fun rz73 z73 H locs h hV => ?_)
          have hce : (ce + 1) + n23 ≤ 1092 := by omega
          have hsl : (sl + 6) + 6 * n23 ≤ 10336 := by omega
          generalize ce + 1 = ce at hce ⊢
          generalize sl + 6 = sl at hsl ⊢
          refine lv_istore hx hb dL_law_421 hl (by decide) rfl (fun ls hl => ?_)
          have hl : lv_has ls 8 [(5, .int rz73), (0, .ref b0), (1, .ref (q 0)), (2, .ref (q 4)), (3, .ref (q 51)), (4, .int x4)] := hl
          refine lv_aload_n hx hb dL_law_423 rfl (lv_at hl 3 rfl) ?_
          refine lv_aload_n hx hb dL_law_424 rfl (lv_at hl 1 rfl) ?_
          refine lv_iload hx hb dL_law_425 (lv_at hl 5 rfl) ?_
          refine lv_iconst (v := 1) hx hb dL_law_427 (by decide) ?_
          refine lv_iadd hx hb dL_law_428 ?_
          refine lv_topi (fun v74 ev74 => ?_)
          have h := h v74 ev74
          obtain ⟨hin, h⟩ := h
          refine va_sld hx hb hX hbl hbA hV.2.2 hin dL_law_429 ?_
          refine lv_topi (fun v75 ev75 => ?_)
          have h := h v75 ev75
          refine lv_aload_n hx hb dL_law_430 rfl (lv_at hl 1 rfl) ?_
          refine lv_iload hx hb dL_law_431 (lv_at hl 5 rfl) ?_
          refine lv_iconst (v := 2) hx hb dL_law_433 (by decide) ?_
          refine lv_iadd hx hb dL_law_434 ?_
          refine lv_topi (fun v76 ev76 => ?_)
          have h := h v76 ev76
          obtain ⟨hin, h⟩ := h
          refine va_sld hx hb hX hbl hbA hV.2.2 hin dL_law_435 ?_
          refine lv_topi (fun v77 ev77 => ?_)
          have h := h v77 ev77
          refine wk_calll (va_runV (As := [.int v75, .int v77]) (rest := []) ⟨hx, hb, hml, hown, hts⟩ (c_M_set l D q cA v75 v77 z73 H.size _ h) (cwV 2 hts gs_L_84 rfl rfl rfl (by decide +kernel) ⟨Nat.le_trans (by decide) hRf, Nat.le_trans (by decide) hRl⟩) (wk_preV hK hV 4 4 rfl rfl [.int v75, .int v77]) rfl rfl hl.1 rfl (lv_room (Nat.le_of_ble_eq_true rfl)) dL_law_436 ⟨Nat.le_trans (show ce + 0 ≤ 1092 by omega) hRc, Nat.le_trans (show sl + 0 ≤ 10336 by omega) hRs⟩) hV hA (fun rz78 z78 H locs h hV => ?_)
          refine lv_lstore hx hb dL_law_439 hl (by decide) rfl (fun ls hl => ?_)
          have hl : lv_has ls 8 [(6, .long rz78), (5, .int rz73), (0, .ref b0), (1, .ref (q 0)), (2, .ref (q 4)), (3, .ref (q 51)), (4, .int x4)] := hl
          refine lv_aload_n hx hb dL_law_441 rfl (lv_at hl 4 rfl) ?_
          refine wk_calli (va_runV (As := []) (rest := []) ⟨hx, hb, hml, hown, hts⟩ (c_M_thrown l D q cA z78 H.size _ h) (cwV 0 hts gs_L_68 rfl rfl rfl (by decide +kernel) ⟨Nat.le_trans (by decide) hRf, Nat.le_trans (by decide) hRl⟩) (wk_preV hK hV 4 4 rfl rfl []) rfl rfl hl.1 rfl (lv_room (Nat.le_of_ble_eq_true rfl)) dL_law_442 ⟨Nat.le_trans (show ce + 0 ≤ 1092 by omega) hRc, Nat.le_trans (show sl + 0 ≤ 10336 by omega) hRs⟩) hV hA (fun rz79 z79 H locs h hV => ?_)
          refine lv_iload hx hb dL_law_445 (lv_at hl 1 rfl) ?_
          refine lv_icmp_eq (tgt := 452) hx hb dL_law_447 (by decide) (fun hc => ?_) (fun hc => ?_)
          · have h := h.1 hc
            refine lv_iload hx hb dL_law_452 (lv_at hl 1 rfl) ?_
            refine lv_if_ne (tgt := 468) hx hb dL_law_454 (by decide) (fun hc => ?_) (fun hc => ?_)
            · have h := h.1 hc
              exact J468 x4 z79 H locs ls ce sl (by omega) (by omega) hV (lv_sub hl [2, 3, 4, 5, 6] rfl) h
            · have h := h.2 hc
              refine lv_aload_n hx hb dL_law_457 rfl (lv_at hl 5 rfl) ?_
              refine lv_iconst (v := 0) hx hb dL_law_458 (by decide) ?_
              obtain ⟨hin, h⟩ := h
              refine va_lald hx hb hK hV.1 51 46 rfl rfl hin dL_law_459 ?_
              refine lv_topl (fun v80 ev80 => ?_)
              have h := h v80 ev80
              refine lv_lload hx hb dL_law_460 (lv_at hl 0 rfl) ?_
              refine W.lcmp hx hb dL_law_462 ?_
              refine lv_topi (fun v81 ev81 => ?_)
              have h := h v81 ev81
              refine lv_if_eq (tgt := 468) hx hb dL_law_463 (by decide) (fun hc => ?_) (fun hc => ?_)
              · have h := h.1 hc
                exact J468 x4 z79 H locs ls ce sl (by omega) (by omega) hV (lv_sub hl [2, 3, 4, 5, 6] rfl) h
              · have h := h.2 hc
                refine lv_iconst (v := 0) hx hb dL_law_466 (by decide) ?_
                obtain ⟨hz, h⟩ := h
                exact hret 0 z79 H locs 467 ls ce sl (by omega) (by omega) h hV dL_law_467
          · have h := h.2 hc
            refine lv_iconst (v := 0) hx hb dL_law_450 (by decide) ?_
            obtain ⟨hz, h⟩ := h
            exact hret 0 z79 H locs 451 ls ce sl (by omega) (by omega) h hV dL_law_451
        by_cases hc5 : v4 = 5
        · have h := h.2.2.2.2.2.1 hc5
          refine lv_tableIn (tgt := 471) hx hb dL_law_40 (by rw [hc5]; decide) (by rw [hc5]; decide) (by rw [hc5]; rfl) (by decide) ?_
          refine lv_aload_n hx hb dL_law_471 rfl (lv_at hl 1 rfl) ?_
          refine lv_aload_n hx hb dL_law_472 rfl (lv_at hl 0 rfl) ?_
          refine lv_iload hx hb dL_law_473 (lv_at hl 4 rfl) ?_
          refine lv_iconst (v := 1) hx hb dL_law_475 (by decide) ?_
          refine lv_iadd hx hb dL_law_476 ?_
          refine lv_topi (fun v82 ev82 => ?_)
          have h := h v82 ev82
          obtain ⟨hin, h⟩ := h
          refine va_sld hx hb hX hbl hbA hV.2.2 hin dL_law_477 ?_
          refine lv_topi (fun v83 ev83 => ?_)
          have h := h v83 ev83
          refine lv_aload_n hx hb dL_law_478 rfl (lv_at hl 0 rfl) ?_
          refine lv_iload hx hb dL_law_479 (lv_at hl 4 rfl) ?_
          refine lv_iconst (v := 2) hx hb dL_law_481 (by decide) ?_
          refine lv_iadd hx hb dL_law_482 ?_
          refine lv_topi (fun v84 ev84 => ?_)
          have h := h v84 ev84
          obtain ⟨hin, h⟩ := h
          refine va_sld hx hb hX hbl hbA hV.2.2 hin dL_law_483 ?_
          refine lv_topi (fun v85 ev85 => ?_)
          have h := h v85 ev85
          refine lv_aload_n hx hb dL_law_484 rfl (lv_at hl 3 rfl) ?_
          refine wk_callm (vx_runSW (As := [.ref (q 0), .int v83, .int v85, .ref (q 51)]) (rest := []) ⟨hx, hb, hml, hown, hts⟩ (c_L_put l hst D q cA SA v83 v85 z H.size _ h) (vx_cwSW 4 hts gs_L_85 rfl rfl rfl (by decide +kernel) ⟨Nat.le_trans (by decide) hRf, Nat.le_trans (by decide) hRl⟩) (wk_preSL hK hV hA hXL [.ref (q 0), .int v83, .int v85, .ref (q 51)]) rfl rfl hl.1 rfl (lv_room (Nat.le_of_ble_eq_true rfl)) dL_law_485 ⟨Nat.le_trans (show ce + 1 ≤ 1092 by omega) hRc, Nat.le_trans (show sl + 6 ≤ 10336 by omega) hRs⟩) hV hA (fun rz86 z86 H locs h hV => ?_)
          have hce : (ce + 1) + n23 ≤ 1092 := by omega
          have hsl : (sl + 6) + 6 * n23 ≤ 10336 := by omega
          generalize ce + 1 = ce at hce ⊢
          generalize sl + 6 = sl at hsl ⊢
          refine lv_istore hx hb dL_law_488 hl (by decide) rfl (fun ls hl => ?_)
          have hl : lv_has ls 8 [(5, .int rz86), (0, .ref b0), (1, .ref (q 0)), (2, .ref (q 4)), (3, .ref (q 51)), (4, .int x4)] := hl
          refine lv_aload_n hx hb dL_law_490 rfl (lv_at hl 3 rfl) ?_
          refine lv_aload_n hx hb dL_law_491 rfl (lv_at hl 1 rfl) ?_
          refine lv_iload hx hb dL_law_492 (lv_at hl 5 rfl) ?_
          refine lv_iconst (v := 1) hx hb dL_law_494 (by decide) ?_
          refine lv_iadd hx hb dL_law_495 ?_
          refine lv_topi (fun v87 ev87 => ?_)
          have h := h v87 ev87
          obtain ⟨hin, h⟩ := h
          refine va_sld hx hb hX hbl hbA hV.2.2 hin dL_law_496 ?_
          refine lv_topi (fun v88 ev88 => ?_)
          have h := h v88 ev88
          refine lv_aload_n hx hb dL_law_497 rfl (lv_at hl 1 rfl) ?_
          refine lv_iload hx hb dL_law_498 (lv_at hl 5 rfl) ?_
          refine lv_iconst (v := 2) hx hb dL_law_500 (by decide) ?_
          refine lv_iadd hx hb dL_law_501 ?_
          refine lv_topi (fun v89 ev89 => ?_)
          have h := h v89 ev89
          obtain ⟨hin, h⟩ := h
          refine va_sld hx hb hX hbl hbA hV.2.2 hin dL_law_502 ?_
          refine lv_topi (fun v90 ev90 => ?_)
          have h := h v90 ev90
          refine wk_calll (va_runV (As := [.int v88, .int v90]) (rest := []) ⟨hx, hb, hml, hown, hts⟩ (c_M_put l D q cA v88 v90 z86 H.size _ h) (cwV 2 hts gs_L_87 rfl rfl rfl (by decide +kernel) ⟨Nat.le_trans (by decide) hRf, Nat.le_trans (by decide) hRl⟩) (wk_preV hK hV 4 4 rfl rfl [.int v88, .int v90]) rfl rfl hl.1 rfl (lv_room (Nat.le_of_ble_eq_true rfl)) dL_law_503 ⟨Nat.le_trans (show ce + 0 ≤ 1092 by omega) hRc, Nat.le_trans (show sl + 0 ≤ 10336 by omega) hRs⟩) hV hA (fun rz91 z91 H locs h hV => ?_)
          refine lv_lstore hx hb dL_law_506 hl (by decide) rfl (fun ls hl => ?_)
          have hl : lv_has ls 8 [(6, .long rz91), (5, .int rz86), (0, .ref b0), (1, .ref (q 0)), (2, .ref (q 4)), (3, .ref (q 51)), (4, .int x4)] := hl
          refine lv_aload_n hx hb dL_law_508 rfl (lv_at hl 4 rfl) ?_
          refine wk_calli (va_runV (As := []) (rest := []) ⟨hx, hb, hml, hown, hts⟩ (c_M_thrown l D q cA z91 H.size _ h) (cwV 0 hts gs_L_68 rfl rfl rfl (by decide +kernel) ⟨Nat.le_trans (by decide) hRf, Nat.le_trans (by decide) hRl⟩) (wk_preV hK hV 4 4 rfl rfl []) rfl rfl hl.1 rfl (lv_room (Nat.le_of_ble_eq_true rfl)) dL_law_509 ⟨Nat.le_trans (show ce + 0 ≤ 1092 by omega) hRc, Nat.le_trans (show sl + 0 ≤ 10336 by omega) hRs⟩) hV hA (fun rz92 z92 H locs h hV => ?_)
          refine lv_iload hx hb dL_law_512 (lv_at hl 1 rfl) ?_
          refine lv_icmp_eq (tgt := 519) hx hb dL_law_514 (by decide) (fun hc => ?_) (fun hc => ?_)
          · have h := h.1 hc
            refine lv_iload hx hb dL_law_519 (lv_at hl 1 rfl) ?_
            refine lv_if_ne (tgt := 535) hx hb dL_law_521 (by decide) (fun hc => ?_) (fun hc => ?_)
            · have h := h.1 hc
              exact J535 x4 z92 H locs ls ce sl (by omega) (by omega) hV (lv_sub hl [2, 3, 4, 5, 6] rfl) h
            · have h := h.2 hc
              refine lv_aload_n hx hb dL_law_524 rfl (lv_at hl 5 rfl) ?_
              refine lv_iconst (v := 0) hx hb dL_law_525 (by decide) ?_
              obtain ⟨hin, h⟩ := h
              refine va_lald hx hb hK hV.1 51 46 rfl rfl hin dL_law_526 ?_
              refine lv_topl (fun v93 ev93 => ?_)
              have h := h v93 ev93
              refine lv_lload hx hb dL_law_527 (lv_at hl 0 rfl) ?_
              refine W.lcmp hx hb dL_law_529 ?_
              refine lv_topi (fun v94 ev94 => ?_)
              have h := h v94 ev94
              refine lv_if_eq (tgt := 535) hx hb dL_law_530 (by decide) (fun hc => ?_) (fun hc => ?_)
              · have h := h.1 hc
                exact J535 x4 z92 H locs ls ce sl (by omega) (by omega) hV (lv_sub hl [2, 3, 4, 5, 6] rfl) h
              · have h := h.2 hc
                refine lv_iconst (v := 0) hx hb dL_law_533 (by decide) ?_
                obtain ⟨hz, h⟩ := h
                exact hret 0 z92 H locs 534 ls ce sl (by omega) (by omega) h hV dL_law_534
          · have h := h.2 hc
            refine lv_iconst (v := 0) hx hb dL_law_517 (by decide) ?_
            obtain ⟨hz, h⟩ := h
            exact hret 0 z92 H locs 518 ls ce sl (by omega) (by omega) h hV dL_law_518
        by_cases hc6 : v4 = 6
        · have h := h.2.2.2.2.2.2.1 hc6
          refine lv_tableIn (tgt := 538) hx hb dL_law_40 (by rw [hc6]; decide) (by rw [hc6]; decide) (by rw [hc6]; rfl) (by decide) ?_
          refine lv_aload_n hx hb dL_law_538 rfl (lv_at hl 1 rfl) ?_
          refine lv_aload_n hx hb dL_law_539 rfl (lv_at hl 0 rfl) ?_
          refine lv_iload hx hb dL_law_540 (lv_at hl 4 rfl) ?_
          refine lv_iconst (v := 1) hx hb dL_law_542 (by decide) ?_
          refine lv_iadd hx hb dL_law_543 ?_
          refine lv_topi (fun v95 ev95 => ?_)
          have h := h v95 ev95
          obtain ⟨hin, h⟩ := h
          refine va_sld hx hb hX hbl hbA hV.2.2 hin dL_law_544 ?_
          refine lv_topi (fun v96 ev96 => ?_)
          have h := h v96 ev96
          refine lv_aload_n hx hb dL_law_545 rfl (lv_at hl 0 rfl) ?_
          refine lv_iload hx hb dL_law_546 (lv_at hl 4 rfl) ?_
          refine lv_iconst (v := 2) hx hb dL_law_548 (by decide) ?_
          refine lv_iadd hx hb dL_law_549 ?_
          refine lv_topi (fun v97 ev97 => ?_)
          have h := h v97 ev97
          obtain ⟨hin, h⟩ := h
          refine va_sld hx hb hX hbl hbA hV.2.2 hin dL_law_550 ?_
          refine lv_topi (fun v98 ev98 => ?_)
          have h := h v98 ev98
          refine lv_aload_n hx hb dL_law_551 rfl (lv_at hl 0 rfl) ?_
          refine lv_iload hx hb dL_law_552 (lv_at hl 4 rfl) ?_
          refine lv_iconst (v := 3) hx hb dL_law_554 (by decide) ?_
          refine lv_iadd hx hb dL_law_555 ?_
          refine lv_topi (fun v99 ev99 => ?_)
          have h := h v99 ev99
          obtain ⟨hin, h⟩ := h
          refine va_sld hx hb hX hbl hbA hV.2.2 hin dL_law_556 ?_
          refine lv_topi (fun v100 ev100 => ?_)
          have h := h v100 ev100
          refine lv_aload_n hx hb dL_law_557 rfl (lv_at hl 3 rfl) ?_
          refine wk_callm (vx_runSW (As := [.ref (q 0), .int v96, .int v98, .int v100, .ref (q 51)]) (rest := []) ⟨hx, hb, hml, hown, hts⟩ (c_L_expression l hst D q cA SA v96 v98 v100 z H.size _ h) (vx_cwSW 5 hts gs_L_88 rfl rfl rfl (by decide +kernel) ⟨Nat.le_trans (by decide) hRf, Nat.le_trans (by decide) hRl⟩) (wk_preSL hK hV hA hXL [.ref (q 0), .int v96, .int v98, .int v100, .ref (q 51)]) rfl rfl hl.1 rfl (lv_room (Nat.le_of_ble_eq_true rfl)) dL_law_558 ⟨Nat.le_trans (show ce + 1 ≤ 1092 by omega) hRc, Nat.le_trans (show sl + 6 ≤ 10336 by omega) hRs⟩) hV hA (fun rz101 z101 H locs h hV => ?_)
          have hce : (ce + 1) + n23 ≤ 1092 := by omega
          have hsl : (sl + 6) + 6 * n23 ≤ 10336 := by omega
          generalize ce + 1 = ce at hce ⊢
          generalize sl + 6 = sl at hsl ⊢
          refine lv_istore hx hb dL_law_561 hl (by decide) rfl (fun ls hl => ?_)
          have hl : lv_has ls 8 [(5, .int rz101), (0, .ref b0), (1, .ref (q 0)), (2, .ref (q 4)), (3, .ref (q 51)), (4, .int x4)] := hl
          refine lv_aload_n hx hb dL_law_563 rfl (lv_at hl 3 rfl) ?_
          refine lv_aload_n hx hb dL_law_564 rfl (lv_at hl 1 rfl) ?_
          refine lv_iload hx hb dL_law_565 (lv_at hl 5 rfl) ?_
          refine lv_iconst (v := 1) hx hb dL_law_567 (by decide) ?_
          refine lv_iadd hx hb dL_law_568 ?_
          refine lv_topi (fun v102 ev102 => ?_)
          have h := h v102 ev102
          obtain ⟨hin, h⟩ := h
          refine va_sld hx hb hX hbl hbA hV.2.2 hin dL_law_569 ?_
          refine lv_topi (fun v103 ev103 => ?_)
          have h := h v103 ev103
          refine lv_aload_n hx hb dL_law_570 rfl (lv_at hl 1 rfl) ?_
          refine lv_iload hx hb dL_law_571 (lv_at hl 5 rfl) ?_
          refine lv_iconst (v := 2) hx hb dL_law_573 (by decide) ?_
          refine lv_iadd hx hb dL_law_574 ?_
          refine lv_topi (fun v104 ev104 => ?_)
          have h := h v104 ev104
          obtain ⟨hin, h⟩ := h
          refine va_sld hx hb hX hbl hbA hV.2.2 hin dL_law_575 ?_
          refine lv_topi (fun v105 ev105 => ?_)
          have h := h v105 ev105
          refine lv_aload_n hx hb dL_law_576 rfl (lv_at hl 1 rfl) ?_
          refine lv_iload hx hb dL_law_577 (lv_at hl 5 rfl) ?_
          refine lv_iconst (v := 3) hx hb dL_law_579 (by decide) ?_
          refine lv_iadd hx hb dL_law_580 ?_
          refine lv_topi (fun v106 ev106 => ?_)
          have h := h v106 ev106
          obtain ⟨hin, h⟩ := h
          refine va_sld hx hb hX hbl hbA hV.2.2 hin dL_law_581 ?_
          refine lv_topi (fun v107 ev107 => ?_)
          have h := h v107 ev107
          refine wk_calli (va_runV (As := [.int v103, .int v105, .int v107]) (rest := []) ⟨hx, hb, hml, hown, hts⟩ (c_M_expression l D q cA v103 v105 v107 z101 H.size _ h) (cwV 3 hts gs_L_91 rfl rfl rfl (by decide +kernel) ⟨Nat.le_trans (by decide) hRf, Nat.le_trans (by decide) hRl⟩) (wk_preV hK hV 4 4 rfl rfl [.int v103, .int v105, .int v107]) rfl rfl hl.1 rfl (lv_room (Nat.le_of_ble_eq_true rfl)) dL_law_582 ⟨Nat.le_trans (show ce + 0 ≤ 1092 by omega) hRc, Nat.le_trans (show sl + 0 ≤ 10336 by omega) hRs⟩) hV hA (fun rz108 z108 H locs h hV => ?_)
          refine lv_istore hx hb dL_law_585 hl (by decide) rfl (fun ls hl => ?_)
          have hl : lv_has ls 8 [(6, .int rz108), (5, .int rz101), (0, .ref b0), (1, .ref (q 0)), (2, .ref (q 4)), (3, .ref (q 51)), (4, .int x4)] := hl
          refine lv_aload_n hx hb dL_law_587 rfl (lv_at hl 4 rfl) ?_
          refine wk_calli (va_runV (As := []) (rest := []) ⟨hx, hb, hml, hown, hts⟩ (c_M_thrown l D q cA z108 H.size _ h) (cwV 0 hts gs_L_68 rfl rfl rfl (by decide +kernel) ⟨Nat.le_trans (by decide) hRf, Nat.le_trans (by decide) hRl⟩) (wk_preV hK hV 4 4 rfl rfl []) rfl rfl hl.1 rfl (lv_room (Nat.le_of_ble_eq_true rfl)) dL_law_588 ⟨Nat.le_trans (show ce + 0 ≤ 1092 by omega) hRc, Nat.le_trans (show sl + 0 ≤ 10336 by omega) hRs⟩) hV hA (fun rz109 z109 H locs h hV => ?_)
          refine lv_iload hx hb dL_law_591 (lv_at hl 1 rfl) ?_
          refine lv_icmp_eq (tgt := 598) hx hb dL_law_593 (by decide) (fun hc => ?_) (fun hc => ?_)
          · have h := h.1 hc
            refine lv_iload hx hb dL_law_598 (lv_at hl 1 rfl) ?_
            refine lv_if_ne (tgt := 615) hx hb dL_law_600 (by decide) (fun hc => ?_) (fun hc => ?_)
            · have h := h.1 hc
              exact J615 x4 z109 H locs ls ce sl (by omega) (by omega) hV (lv_sub hl [2, 3, 4, 5, 6] rfl) h
            · have h := h.2 hc
              refine lv_aload_n hx hb dL_law_603 rfl (lv_at hl 5 rfl) ?_
              refine lv_iconst (v := 0) hx hb dL_law_604 (by decide) ?_
              obtain ⟨hin, h⟩ := h
              refine va_lald hx hb hK hV.1 51 46 rfl rfl hin dL_law_605 ?_
              refine lv_topl (fun v110 ev110 => ?_)
              have h := h v110 ev110
              refine lv_iload hx hb dL_law_606 (lv_at hl 0 rfl) ?_
              refine lv_i2l hx hb dL_law_608 rfl ?_
              refine lv_topl (fun v111 ev111 => ?_)
              have h := h v111 ev111
              refine W.lcmp hx hb dL_law_609 ?_
              refine lv_topi (fun v112 ev112 => ?_)
              have h := h v112 ev112
              refine lv_if_eq (tgt := 615) hx hb dL_law_610 (by decide) (fun hc => ?_) (fun hc => ?_)
              · have h := h.1 hc
                exact J615 x4 z109 H locs ls ce sl (by omega) (by omega) hV (lv_sub hl [2, 3, 4, 5, 6] rfl) h
              · have h := h.2 hc
                refine lv_iconst (v := 0) hx hb dL_law_613 (by decide) ?_
                obtain ⟨hz, h⟩ := h
                exact hret 0 z109 H locs 614 ls ce sl (by omega) (by omega) h hV dL_law_614
          · have h := h.2 hc
            refine lv_iconst (v := 0) hx hb dL_law_596 (by decide) ?_
            obtain ⟨hz, h⟩ := h
            exact hret 0 z109 H locs 597 ls ce sl (by omega) (by omega) h hV dL_law_597
        by_cases hc7 : v4 = 7
        · have h := h.2.2.2.2.2.2.2.1 hc7
          refine lv_tableIn (tgt := 618) hx hb dL_law_40 (by rw [hc7]; decide) (by rw [hc7]; decide) (by rw [hc7]; rfl) (by decide) ?_
          refine lv_aload_n hx hb dL_law_618 rfl (lv_at hl 1 rfl) ?_
          refine lv_aload_n hx hb dL_law_619 rfl (lv_at hl 0 rfl) ?_
          refine lv_iload hx hb dL_law_620 (lv_at hl 4 rfl) ?_
          refine lv_iconst (v := 1) hx hb dL_law_622 (by decide) ?_
          refine lv_iadd hx hb dL_law_623 ?_
          refine lv_topi (fun v113 ev113 => ?_)
          have h := h v113 ev113
          obtain ⟨hin, h⟩ := h
          refine va_sld hx hb hX hbl hbA hV.2.2 hin dL_law_624 ?_
          refine lv_topi (fun v114 ev114 => ?_)
          have h := h v114 ev114
          refine lv_if_eq (tgt := 632) hx hb dL_law_625 (by decide) (fun hc => ?_) (fun hc => ?_)
          · have h := h.1 hc
            refine lv_iconst (v := 0) hx hb dL_law_632 (by decide) ?_
            exact J633 x4 0 z H locs ls ce sl (by omega) (by omega) hV (lv_sub hl [0, 1, 2, 3, 4] rfl) h
          · have h := h.2 hc
            refine lv_iconst (v := 1) hx hb dL_law_628 (by decide) ?_
            refine lv_goto (tgt := 633) hx hb dL_law_629 (by decide) ?_
            exact J633 x4 1 z H locs ls ce sl (by omega) (by omega) hV (lv_sub hl [0, 1, 2, 3, 4] rfl) h
        by_cases hc8 : v4 = 8
        · have h := h.2.2.2.2.2.2.2.2.1 hc8
          refine lv_tableIn (tgt := 726) hx hb dL_law_40 (by rw [hc8]; decide) (by rw [hc8]; decide) (by rw [hc8]; rfl) (by decide) ?_
          refine lv_aload_n hx hb dL_law_726 rfl (lv_at hl 1 rfl) ?_
          refine wk_calli (va_runV (As := []) (rest := []) ⟨hx, hb, hml, hown, hts⟩ (c_C_outs l D q cA z H.size _ h) (cwV 0 hts gs_L_96 rfl rfl rfl (by decide +kernel) ⟨Nat.le_trans (by decide) hRf, Nat.le_trans (by decide) hRl⟩) (wk_preV hK hV 0 0 rfl rfl []) rfl rfl hl.1 rfl (lv_room (Nat.le_of_ble_eq_true rfl)) dL_law_727 ⟨Nat.le_trans (show ce + 0 ≤ 1092 by omega) hRc, Nat.le_trans (show sl + 0 ≤ 10336 by omega) hRs⟩) hV hA (fun rz115 z115 H locs h hV => ?_)
          refine lv_aload_n hx hb dL_law_730 rfl (lv_at hl 2 rfl) ?_
          refine wk_calli (va_runV (As := []) (rest := [.int rz115]) ⟨hx, hb, hml, hown, hts⟩ (c_M_outs l D q cA z115 H.size _ h) (cwV 0 hts gs_L_99 rfl rfl rfl (by decide +kernel) ⟨Nat.le_trans (by decide) hRf, Nat.le_trans (by decide) hRl⟩) (wk_preV hK hV 4 4 rfl rfl []) rfl rfl hl.1 rfl (lv_room (Nat.le_of_ble_eq_true rfl)) dL_law_731 ⟨Nat.le_trans (show ce + 0 ≤ 1092 by omega) hRc, Nat.le_trans (show sl + 0 ≤ 10336 by omega) hRs⟩) hV hA (fun rz116 z116 H locs h hV => ?_)
          refine lv_icmp_eq (tgt := 932) hx hb dL_law_734 (by decide) (fun hc => ?_) (fun hc => ?_)
          · have h := h.1 hc
            exact J932 x4 z116 H locs ls ce sl (by omega) (by omega) hV (lv_sub hl [0, 1, 2, 3, 4] rfl) h
          · have h := h.2 hc
            refine lv_iconst (v := 0) hx hb dL_law_737 (by decide) ?_
            obtain ⟨hz, h⟩ := h
            exact hret 0 z116 H locs 738 ls ce sl (by omega) (by omega) h hV dL_law_738
        by_cases hc9 : v4 = 9
        · have h := h.2.2.2.2.2.2.2.2.2.1 hc9
          refine lv_tableIn (tgt := 739) hx hb dL_law_40 (by rw [hc9]; decide) (by rw [hc9]; decide) (by rw [hc9]; rfl) (by decide) ?_
          refine lv_aload_n hx hb dL_law_739 rfl (lv_at hl 1 rfl) ?_
          refine lv_aload_n hx hb dL_law_740 rfl (lv_at hl 0 rfl) ?_
          refine lv_iload hx hb dL_law_741 (lv_at hl 4 rfl) ?_
          refine lv_iconst (v := 1) hx hb dL_law_743 (by decide) ?_
          refine lv_iadd hx hb dL_law_744 ?_
          refine lv_topi (fun v117 ev117 => ?_)
          have h := h v117 ev117
          obtain ⟨hin, h⟩ := h
          refine va_sld hx hb hX hbl hbA hV.2.2 hin dL_law_745 ?_
          refine lv_topi (fun v118 ev118 => ?_)
          have h := h v118 ev118
          refine lv_aload_n hx hb dL_law_746 rfl (lv_at hl 3 rfl) ?_
          refine wk_callm (vx_runSW (As := [.ref (q 0), .int v118, .ref (q 51)]) (rest := []) ⟨hx, hb, hml, hown, hts⟩ (c_L_out l hst D q cA SA v118 z H.size _ h) (vx_cwSW 3 hts gs_L_100 rfl rfl rfl (by decide +kernel) ⟨Nat.le_trans (by decide) hRf, Nat.le_trans (by decide) hRl⟩) (wk_preSL hK hV hA hXL [.ref (q 0), .int v118, .ref (q 51)]) rfl rfl hl.1 rfl (lv_room (Nat.le_of_ble_eq_true rfl)) dL_law_747 ⟨Nat.le_trans (show ce + 1 ≤ 1092 by omega) hRc, Nat.le_trans (show sl + 6 ≤ 10336 by omega) hRs⟩) hV hA (fun rz119 z119 H locs h hV => ?_)
          have hce : (ce + 1) + n23 ≤ 1092 := by omega
          have hsl : (sl + 6) + 6 * n23 ≤ 10336 := by omega
          generalize ce + 1 = ce at hce ⊢
          generalize sl + 6 = sl at hsl ⊢
          refine lv_istore hx hb dL_law_750 hl (by decide) rfl (fun ls hl => ?_)
          have hl : lv_has ls 8 [(5, .int rz119), (0, .ref b0), (1, .ref (q 0)), (2, .ref (q 4)), (3, .ref (q 51)), (4, .int x4)] := hl
          refine lv_aload_n hx hb dL_law_752 rfl (lv_at hl 3 rfl) ?_
          refine lv_aload_n hx hb dL_law_753 rfl (lv_at hl 1 rfl) ?_
          refine lv_iload hx hb dL_law_754 (lv_at hl 5 rfl) ?_
          refine lv_iconst (v := 1) hx hb dL_law_756 (by decide) ?_
          refine lv_iadd hx hb dL_law_757 ?_
          refine lv_topi (fun v120 ev120 => ?_)
          have h := h v120 ev120
          obtain ⟨hin, h⟩ := h
          refine va_sld hx hb hX hbl hbA hV.2.2 hin dL_law_758 ?_
          refine lv_topi (fun v121 ev121 => ?_)
          have h := h v121 ev121
          refine wk_calli (va_runV (As := [.int v121]) (rest := []) ⟨hx, hb, hml, hown, hts⟩ (c_M_out l D q cA v121 z119 H.size _ h) (cwV 1 hts gs_L_103 rfl rfl rfl (by decide +kernel) ⟨Nat.le_trans (by decide) hRf, Nat.le_trans (by decide) hRl⟩) (wk_preV hK hV 4 4 rfl rfl [.int v121]) rfl rfl hl.1 rfl (lv_room (Nat.le_of_ble_eq_true rfl)) dL_law_759 ⟨Nat.le_trans (show ce + 0 ≤ 1092 by omega) hRc, Nat.le_trans (show sl + 0 ≤ 10336 by omega) hRs⟩) hV hA (fun rz122 z122 H locs h hV => ?_)
          refine lv_istore hx hb dL_law_762 hl (by decide) rfl (fun ls hl => ?_)
          have hl : lv_has ls 8 [(6, .int rz122), (5, .int rz119), (0, .ref b0), (1, .ref (q 0)), (2, .ref (q 4)), (3, .ref (q 51)), (4, .int x4)] := hl
          refine lv_aload_n hx hb dL_law_764 rfl (lv_at hl 4 rfl) ?_
          refine wk_calli (va_runV (As := []) (rest := []) ⟨hx, hb, hml, hown, hts⟩ (c_M_thrown l D q cA z122 H.size _ h) (cwV 0 hts gs_L_68 rfl rfl rfl (by decide +kernel) ⟨Nat.le_trans (by decide) hRf, Nat.le_trans (by decide) hRl⟩) (wk_preV hK hV 4 4 rfl rfl []) rfl rfl hl.1 rfl (lv_room (Nat.le_of_ble_eq_true rfl)) dL_law_765 ⟨Nat.le_trans (show ce + 0 ≤ 1092 by omega) hRc, Nat.le_trans (show sl + 0 ≤ 10336 by omega) hRs⟩) hV hA (fun rz123 z123 H locs h hV => ?_)
          refine lv_iload hx hb dL_law_768 (lv_at hl 1 rfl) ?_
          refine lv_icmp_eq (tgt := 775) hx hb dL_law_770 (by decide) (fun hc => ?_) (fun hc => ?_)
          · have h := h.1 hc
            refine lv_iload hx hb dL_law_775 (lv_at hl 1 rfl) ?_
            refine lv_if_ne (tgt := 792) hx hb dL_law_777 (by decide) (fun hc => ?_) (fun hc => ?_)
            · have h := h.1 hc
              exact J792 x4 z123 H locs ls ce sl (by omega) (by omega) hV (lv_sub hl [2, 3, 4, 5, 6] rfl) h
            · have h := h.2 hc
              refine lv_aload_n hx hb dL_law_780 rfl (lv_at hl 5 rfl) ?_
              refine lv_iconst (v := 0) hx hb dL_law_781 (by decide) ?_
              obtain ⟨hin, h⟩ := h
              refine va_lald hx hb hK hV.1 51 46 rfl rfl hin dL_law_782 ?_
              refine lv_topl (fun v124 ev124 => ?_)
              have h := h v124 ev124
              refine lv_iload hx hb dL_law_783 (lv_at hl 0 rfl) ?_
              refine lv_i2l hx hb dL_law_785 rfl ?_
              refine lv_topl (fun v125 ev125 => ?_)
              have h := h v125 ev125
              refine W.lcmp hx hb dL_law_786 ?_
              refine lv_topi (fun v126 ev126 => ?_)
              have h := h v126 ev126
              refine lv_if_eq (tgt := 792) hx hb dL_law_787 (by decide) (fun hc => ?_) (fun hc => ?_)
              · have h := h.1 hc
                exact J792 x4 z123 H locs ls ce sl (by omega) (by omega) hV (lv_sub hl [2, 3, 4, 5, 6] rfl) h
              · have h := h.2 hc
                refine lv_iconst (v := 0) hx hb dL_law_790 (by decide) ?_
                obtain ⟨hz, h⟩ := h
                exact hret 0 z123 H locs 791 ls ce sl (by omega) (by omega) h hV dL_law_791
          · have h := h.2 hc
            refine lv_iconst (v := 0) hx hb dL_law_773 (by decide) ?_
            obtain ⟨hz, h⟩ := h
            exact hret 0 z123 H locs 774 ls ce sl (by omega) (by omega) h hV dL_law_774
        by_cases hc10 : v4 = 10
        · have h := h.2.2.2.2.2.2.2.2.2.2.1 hc10
          refine lv_tableIn (tgt := 795) hx hb dL_law_40 (by rw [hc10]; decide) (by rw [hc10]; decide) (by rw [hc10]; rfl) (by decide) ?_
          refine lv_aload_n hx hb dL_law_795 rfl (lv_at hl 1 rfl) ?_
          refine lv_aload_n hx hb dL_law_796 rfl (lv_at hl 0 rfl) ?_
          refine lv_iload hx hb dL_law_797 (lv_at hl 4 rfl) ?_
          refine lv_iconst (v := 1) hx hb dL_law_799 (by decide) ?_
          refine lv_iadd hx hb dL_law_800 ?_
          refine lv_topi (fun v127 ev127 => ?_)
          have h := h v127 ev127
          obtain ⟨hin, h⟩ := h
          refine va_sld hx hb hX hbl hbA hV.2.2 hin dL_law_801 ?_
          refine lv_topi (fun v128 ev128 => ?_)
          have h := h v128 ev128
          refine lv_aload_n hx hb dL_law_802 rfl (lv_at hl 3 rfl) ?_
          refine wk_callm (vx_runSW (As := [.ref (q 0), .int v128, .ref (q 51)]) (rest := []) ⟨hx, hb, hml, hown, hts⟩ (c_L_variable l hst D q cA SA v128 z H.size _ h) (vx_cwSW 3 hts gs_L_104 rfl rfl rfl (by decide +kernel) ⟨Nat.le_trans (by decide) hRf, Nat.le_trans (by decide) hRl⟩) (wk_preSL hK hV hA hXL [.ref (q 0), .int v128, .ref (q 51)]) rfl rfl hl.1 rfl (lv_room (Nat.le_of_ble_eq_true rfl)) dL_law_803 ⟨Nat.le_trans (show ce + 1 ≤ 1092 by omega) hRc, Nat.le_trans (show sl + 6 ≤ 10336 by omega) hRs⟩) hV hA (fun rz129 z129 H locs h hV => ?_)
          have hce : (ce + 1) + n23 ≤ 1092 := by omega
          have hsl : (sl + 6) + 6 * n23 ≤ 10336 := by omega
          generalize ce + 1 = ce at hce ⊢
          generalize sl + 6 = sl at hsl ⊢
          refine lv_istore hx hb dL_law_806 hl (by decide) rfl (fun ls hl => ?_)
          have hl : lv_has ls 8 [(5, .int rz129), (0, .ref b0), (1, .ref (q 0)), (2, .ref (q 4)), (3, .ref (q 51)), (4, .int x4)] := hl
          refine lv_aload_n hx hb dL_law_808 rfl (lv_at hl 3 rfl) ?_
          refine lv_aload_n hx hb dL_law_809 rfl (lv_at hl 1 rfl) ?_
          refine lv_iload hx hb dL_law_810 (lv_at hl 5 rfl) ?_
          refine lv_iconst (v := 1) hx hb dL_law_812 (by decide) ?_
          refine lv_iadd hx hb dL_law_813 ?_
          refine lv_topi (fun v130 ev130 => ?_)
          have h := h v130 ev130
          obtain ⟨hin, h⟩ := h
          refine va_sld hx hb hX hbl hbA hV.2.2 hin dL_law_814 ?_
          refine lv_topi (fun v131 ev131 => ?_)
          have h := h v131 ev131
          refine wk_calli (va_runV (As := [.int v131]) (rest := []) ⟨hx, hb, hml, hown, hts⟩ (c_M_variable l D q cA v131 z129 H.size _ h) (cwV 1 hts gs_L_106 rfl rfl rfl (by decide +kernel) ⟨Nat.le_trans (by decide) hRf, Nat.le_trans (by decide) hRl⟩) (wk_preV hK hV 4 4 rfl rfl [.int v131]) rfl rfl hl.1 rfl (lv_room (Nat.le_of_ble_eq_true rfl)) dL_law_815 ⟨Nat.le_trans (show ce + 0 ≤ 1092 by omega) hRc, Nat.le_trans (show sl + 0 ≤ 10336 by omega) hRs⟩) hV hA (fun rz132 z132 H locs h hV => ?_)
          refine lv_istore hx hb dL_law_818 hl (by decide) rfl (fun ls hl => ?_)
          have hl : lv_has ls 8 [(6, .int rz132), (5, .int rz129), (0, .ref b0), (1, .ref (q 0)), (2, .ref (q 4)), (3, .ref (q 51)), (4, .int x4)] := hl
          refine lv_aload_n hx hb dL_law_820 rfl (lv_at hl 4 rfl) ?_
          refine wk_calli (va_runV (As := []) (rest := []) ⟨hx, hb, hml, hown, hts⟩ (c_M_thrown l D q cA z132 H.size _ h) (cwV 0 hts gs_L_68 rfl rfl rfl (by decide +kernel) ⟨Nat.le_trans (by decide) hRf, Nat.le_trans (by decide) hRl⟩) (wk_preV hK hV 4 4 rfl rfl []) rfl rfl hl.1 rfl (lv_room (Nat.le_of_ble_eq_true rfl)) dL_law_821 ⟨Nat.le_trans (show ce + 0 ≤ 1092 by omega) hRc, Nat.le_trans (show sl + 0 ≤ 10336 by omega) hRs⟩) hV hA (fun rz133 z133 H locs h hV => ?_)
          refine lv_iload hx hb dL_law_824 (lv_at hl 1 rfl) ?_
          refine lv_icmp_eq (tgt := 831) hx hb dL_law_826 (by decide) (fun hc => ?_) (fun hc => ?_)
          · have h := h.1 hc
            refine lv_iload hx hb dL_law_831 (lv_at hl 1 rfl) ?_
            refine lv_if_ne (tgt := 848) hx hb dL_law_833 (by decide) (fun hc => ?_) (fun hc => ?_)
            · have h := h.1 hc
              exact J848 x4 z133 H locs ls ce sl (by omega) (by omega) hV (lv_sub hl [2, 3, 4, 5, 6] rfl) h
            · have h := h.2 hc
              refine lv_aload_n hx hb dL_law_836 rfl (lv_at hl 5 rfl) ?_
              refine lv_iconst (v := 0) hx hb dL_law_837 (by decide) ?_
              obtain ⟨hin, h⟩ := h
              refine va_lald hx hb hK hV.1 51 46 rfl rfl hin dL_law_838 ?_
              refine lv_topl (fun v134 ev134 => ?_)
              have h := h v134 ev134
              refine lv_iload hx hb dL_law_839 (lv_at hl 0 rfl) ?_
              refine lv_i2l hx hb dL_law_841 rfl ?_
              refine lv_topl (fun v135 ev135 => ?_)
              have h := h v135 ev135
              refine W.lcmp hx hb dL_law_842 ?_
              refine lv_topi (fun v136 ev136 => ?_)
              have h := h v136 ev136
              refine lv_if_eq (tgt := 848) hx hb dL_law_843 (by decide) (fun hc => ?_) (fun hc => ?_)
              · have h := h.1 hc
                exact J848 x4 z133 H locs ls ce sl (by omega) (by omega) hV (lv_sub hl [2, 3, 4, 5, 6] rfl) h
              · have h := h.2 hc
                refine lv_iconst (v := 0) hx hb dL_law_846 (by decide) ?_
                obtain ⟨hz, h⟩ := h
                exact hret 0 z133 H locs 847 ls ce sl (by omega) (by omega) h hV dL_law_847
          · have h := h.2 hc
            refine lv_iconst (v := 0) hx hb dL_law_829 (by decide) ?_
            obtain ⟨hz, h⟩ := h
            exact hret 0 z133 H locs 830 ls ce sl (by omega) (by omega) h hV dL_law_830
        by_cases hc11 : v4 = 11
        · have h := h.2.2.2.2.2.2.2.2.2.2.2.1 hc11
          refine lv_tableIn (tgt := 851) hx hb dL_law_40 (by rw [hc11]; decide) (by rw [hc11]; decide) (by rw [hc11]; rfl) (by decide) ?_
          refine lv_aload_n hx hb dL_law_851 rfl (lv_at hl 1 rfl) ?_
          refine lv_aload_n hx hb dL_law_852 rfl (lv_at hl 0 rfl) ?_
          refine lv_iload hx hb dL_law_853 (lv_at hl 4 rfl) ?_
          refine lv_iconst (v := 1) hx hb dL_law_855 (by decide) ?_
          refine lv_iadd hx hb dL_law_856 ?_
          refine lv_topi (fun v137 ev137 => ?_)
          have h := h v137 ev137
          obtain ⟨hin, h⟩ := h
          refine va_sld hx hb hX hbl hbA hV.2.2 hin dL_law_857 ?_
          refine lv_topi (fun v138 ev138 => ?_)
          have h := h v138 ev138
          refine wk_calli (va_runV (As := [.int v138]) (rest := []) ⟨hx, hb, hml, hown, hts⟩ (c_C_computed l D q cA v138 z H.size _ h) (cwV 1 hts gs_L_107 rfl rfl rfl (by decide +kernel) ⟨Nat.le_trans (by decide) hRf, Nat.le_trans (by decide) hRl⟩) (wk_preV hK hV 0 0 rfl rfl [.int v138]) rfl rfl hl.1 rfl (lv_room (Nat.le_of_ble_eq_true rfl)) dL_law_858 ⟨Nat.le_trans (show ce + 0 ≤ 1092 by omega) hRc, Nat.le_trans (show sl + 0 ≤ 10336 by omega) hRs⟩) hV hA (fun rz139 z139 H locs h hV => ?_)
          refine lv_aload_n hx hb dL_law_861 rfl (lv_at hl 2 rfl) ?_
          refine lv_aload_n hx hb dL_law_862 rfl (lv_at hl 0 rfl) ?_
          refine lv_iload hx hb dL_law_863 (lv_at hl 4 rfl) ?_
          refine lv_iconst (v := 1) hx hb dL_law_865 (by decide) ?_
          refine lv_iadd hx hb dL_law_866 ?_
          refine lv_topi (fun v140 ev140 => ?_)
          have h := h v140 ev140
          obtain ⟨hin, h⟩ := h
          refine va_sld hx hb hX hbl hbA hV.2.2 hin dL_law_867 ?_
          refine lv_topi (fun v141 ev141 => ?_)
          have h := h v141 ev141
          refine wk_calli (va_runV (As := [.int v141]) (rest := [.int rz139]) ⟨hx, hb, hml, hown, hts⟩ (c_M_computed l D q cA v141 z139 H.size _ h) (cwV 1 hts gs_L_110 rfl rfl rfl (by decide +kernel) ⟨Nat.le_trans (by decide) hRf, Nat.le_trans (by decide) hRl⟩) (wk_preV hK hV 4 4 rfl rfl [.int v141]) rfl rfl hl.1 rfl (lv_room (Nat.le_of_ble_eq_true rfl)) dL_law_868 ⟨Nat.le_trans (show ce + 0 ≤ 1092 by omega) hRc, Nat.le_trans (show sl + 0 ≤ 10336 by omega) hRs⟩) hV hA (fun rz142 z142 H locs h hV => ?_)
          refine lv_icmp_eq (tgt := 932) hx hb dL_law_871 (by decide) (fun hc => ?_) (fun hc => ?_)
          · have h := h.1 hc
            exact J932 x4 z142 H locs ls ce sl (by omega) (by omega) hV (lv_sub hl [0, 1, 2, 3, 4] rfl) h
          · have h := h.2 hc
            refine lv_iconst (v := 0) hx hb dL_law_874 (by decide) ?_
            obtain ⟨hz, h⟩ := h
            exact hret 0 z142 H locs 875 ls ce sl (by omega) (by omega) h hV dL_law_875
        by_cases hc12 : v4 = 12
        · have h := h.2.2.2.2.2.2.2.2.2.2.2.2.1 hc12
          refine lv_tableIn (tgt := 876) hx hb dL_law_40 (by rw [hc12]; decide) (by rw [hc12]; decide) (by rw [hc12]; rfl) (by decide) ?_
          refine lv_aload_n hx hb dL_law_876 rfl (lv_at hl 1 rfl) ?_
          refine lv_aload_n hx hb dL_law_877 rfl (lv_at hl 0 rfl) ?_
          refine lv_iload hx hb dL_law_878 (lv_at hl 4 rfl) ?_
          refine lv_iconst (v := 1) hx hb dL_law_880 (by decide) ?_
          refine lv_iadd hx hb dL_law_881 ?_
          refine lv_topi (fun v143 ev143 => ?_)
          have h := h v143 ev143
          obtain ⟨hin, h⟩ := h
          refine va_sld hx hb hX hbl hbA hV.2.2 hin dL_law_882 ?_
          refine lv_topi (fun v144 ev144 => ?_)
          have h := h v144 ev144
          refine lv_aload_n hx hb dL_law_883 rfl (lv_at hl 3 rfl) ?_
          refine wk_callm (vx_runSW (As := [.ref (q 0), .int v144, .ref (q 51)]) (rest := []) ⟨hx, hb, hml, hown, hts⟩ (c_L_count l hst D q cA SA v144 z H.size _ h) (vx_cwSW 3 hts gs_L_111 rfl rfl rfl (by decide +kernel) ⟨Nat.le_trans (by decide) hRf, Nat.le_trans (by decide) hRl⟩) (wk_preSL hK hV hA hXL [.ref (q 0), .int v144, .ref (q 51)]) rfl rfl hl.1 rfl (lv_room (Nat.le_of_ble_eq_true rfl)) dL_law_884 ⟨Nat.le_trans (show ce + 1 ≤ 1092 by omega) hRc, Nat.le_trans (show sl + 6 ≤ 10336 by omega) hRs⟩) hV hA (fun rz145 z145 H locs h hV => ?_)
          have hce : (ce + 1) + n23 ≤ 1092 := by omega
          have hsl : (sl + 6) + 6 * n23 ≤ 10336 := by omega
          generalize ce + 1 = ce at hce ⊢
          generalize sl + 6 = sl at hsl ⊢
          refine lv_istore hx hb dL_law_887 hl (by decide) rfl (fun ls hl => ?_)
          have hl : lv_has ls 8 [(5, .int rz145), (0, .ref b0), (1, .ref (q 0)), (2, .ref (q 4)), (3, .ref (q 51)), (4, .int x4)] := hl
          refine lv_aload_n hx hb dL_law_889 rfl (lv_at hl 3 rfl) ?_
          refine lv_aload_n hx hb dL_law_890 rfl (lv_at hl 1 rfl) ?_
          refine lv_iload hx hb dL_law_891 (lv_at hl 5 rfl) ?_
          refine lv_iconst (v := 1) hx hb dL_law_893 (by decide) ?_
          refine lv_iadd hx hb dL_law_894 ?_
          refine lv_topi (fun v146 ev146 => ?_)
          have h := h v146 ev146
          obtain ⟨hin, h⟩ := h
          refine va_sld hx hb hX hbl hbA hV.2.2 hin dL_law_895 ?_
          refine lv_topi (fun v147 ev147 => ?_)
          have h := h v147 ev147
          refine wk_calli (va_runV (As := [.int v147]) (rest := []) ⟨hx, hb, hml, hown, hts⟩ (c_M_count l D q cA v147 z145 H.size _ h) (cwV 1 hts gs_L_113 rfl rfl rfl (by decide +kernel) ⟨Nat.le_trans (by decide) hRf, Nat.le_trans (by decide) hRl⟩) (wk_preV hK hV 4 4 rfl rfl [.int v147]) rfl rfl hl.1 rfl (lv_room (Nat.le_of_ble_eq_true rfl)) dL_law_896 ⟨Nat.le_trans (show ce + 0 ≤ 1092 by omega) hRc, Nat.le_trans (show sl + 0 ≤ 10336 by omega) hRs⟩) hV hA (fun rz148 z148 H locs h hV => ?_)
          refine lv_istore hx hb dL_law_899 hl (by decide) rfl (fun ls hl => ?_)
          have hl : lv_has ls 8 [(6, .int rz148), (5, .int rz145), (0, .ref b0), (1, .ref (q 0)), (2, .ref (q 4)), (3, .ref (q 51)), (4, .int x4)] := hl
          refine lv_aload_n hx hb dL_law_901 rfl (lv_at hl 4 rfl) ?_
          refine wk_calli (va_runV (As := []) (rest := []) ⟨hx, hb, hml, hown, hts⟩ (c_M_thrown l D q cA z148 H.size _ h) (cwV 0 hts gs_L_68 rfl rfl rfl (by decide +kernel) ⟨Nat.le_trans (by decide) hRf, Nat.le_trans (by decide) hRl⟩) (wk_preV hK hV 4 4 rfl rfl []) rfl rfl hl.1 rfl (lv_room (Nat.le_of_ble_eq_true rfl)) dL_law_902 ⟨Nat.le_trans (show ce + 0 ≤ 1092 by omega) hRc, Nat.le_trans (show sl + 0 ≤ 10336 by omega) hRs⟩) hV hA (fun rz149 z149 H locs h hV => ?_)
          refine lv_iload hx hb dL_law_905 (lv_at hl 1 rfl) ?_
          refine lv_icmp_eq (tgt := 912) hx hb dL_law_907 (by decide) (fun hc => ?_) (fun hc => ?_)
          · have h := h.1 hc
            refine lv_iload hx hb dL_law_912 (lv_at hl 1 rfl) ?_
            refine lv_if_ne (tgt := 929) hx hb dL_law_914 (by decide) (fun hc => ?_) (fun hc => ?_)
            · have h := h.1 hc
              exact J929 x4 z149 H locs ls ce sl (by omega) (by omega) hV (lv_sub hl [2, 3, 4, 5, 6] rfl) h
            · have h := h.2 hc
              refine lv_aload_n hx hb dL_law_917 rfl (lv_at hl 5 rfl) ?_
              refine lv_iconst (v := 0) hx hb dL_law_918 (by decide) ?_
              obtain ⟨hin, h⟩ := h
              refine va_lald hx hb hK hV.1 51 46 rfl rfl hin dL_law_919 ?_
              refine lv_topl (fun v150 ev150 => ?_)
              have h := h v150 ev150
              refine lv_iload hx hb dL_law_920 (lv_at hl 0 rfl) ?_
              refine lv_i2l hx hb dL_law_922 rfl ?_
              refine lv_topl (fun v151 ev151 => ?_)
              have h := h v151 ev151
              refine W.lcmp hx hb dL_law_923 ?_
              refine lv_topi (fun v152 ev152 => ?_)
              have h := h v152 ev152
              refine lv_if_eq (tgt := 929) hx hb dL_law_924 (by decide) (fun hc => ?_) (fun hc => ?_)
              · have h := h.1 hc
                exact J929 x4 z149 H locs ls ce sl (by omega) (by omega) hV (lv_sub hl [2, 3, 4, 5, 6] rfl) h
              · have h := h.2 hc
                refine lv_iconst (v := 0) hx hb dL_law_927 (by decide) ?_
                obtain ⟨hz, h⟩ := h
                exact hret 0 z149 H locs 928 ls ce sl (by omega) (by omega) h hV dL_law_928
          · have h := h.2 hc
            refine lv_iconst (v := 0) hx hb dL_law_910 (by decide) ?_
            obtain ⟨hz, h⟩ := h
            exact hret 0 z149 H locs 911 ls ce sl (by omega) (by omega) h hV dL_law_911
        have h := h.2.2.2.2.2.2.2.2.2.2.2.2.2 ⟨hc0, hc1, hc2, hc3, hc4, hc5, hc6, hc7, hc8, hc9, hc10, hc11, hc12⟩
        refine lv_tableOut (tgt := 932) hx hb dL_law_40 (by have t0 := lv_neT hc0 (a := 0) (by decide); have t1 := lv_neT hc1 (a := 1) (by decide); have t2 := lv_neT hc2 (a := 2) (by decide); have t3 := lv_neT hc3 (a := 3) (by decide); have t4 := lv_neT hc4 (a := 4) (by decide); have t5 := lv_neT hc5 (a := 5) (by decide); have t6 := lv_neT hc6 (a := 6) (by decide); have t7 := lv_neT hc7 (a := 7) (by decide); have t8 := lv_neT hc8 (a := 8) (by decide); have t9 := lv_neT hc9 (a := 9) (by decide); have t10 := lv_neT hc10 (a := 10) (by decide); have t11 := lv_neT hc11 (a := 11) (by decide); have t12 := lv_neT hc12 (a := 12) (by decide); omega) (by decide) ?_
        exact J932 x4 z H locs ls ce sl (by omega) (by omega) hV (lv_sub hl [0, 1, 2, 3, 4] rfl) h
  exact L23
end
