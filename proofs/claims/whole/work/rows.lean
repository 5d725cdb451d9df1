section
-- ===== PART A: goes FIRST, ahead of the names: the tables' words, and 'selects' of the private methods out of them =====
/-- a private method of a class that the tables say can be made, by its rows of tables_1 -/
def lw_okq (q : MethodName × Nat) : Prop := (q.1.cls ≠ "java/lang/invoke/MethodHandle" ∧ q.1.cls ≠ "java/lang/invoke/VarHandle") ∧ Cond.instantiable q.1.cls q.2 ∈ tables_1 ∧ Cond.privateMethod q.1 ∈ tables_1 ∧ Cond.instanceMethod q.1 ∈ tables_1
theorem lw_p0 : lw_okq (⟨"java/lang/Throwable", "fillInStackTrace", "(I)Ljava/lang/Throwable;"⟩, 6) := ⟨⟨by decide +kernel, by decide +kernel⟩, List.mem_of_getElem? (i := 246) (by decide +kernel), List.mem_of_getElem? (i := 244) (by decide +kernel), List.mem_of_getElem? (i := 245) (by decide +kernel)⟩
theorem lw_p1 : lw_okq (⟨"LazyMotion$Motion", "findReached", "()V"⟩, 11) := ⟨⟨by decide +kernel, by decide +kernel⟩, List.mem_of_getElem? (i := 92) (by decide +kernel), List.mem_of_getElem? (i := 384) (by decide +kernel), List.mem_of_getElem? (i := 385) (by decide +kernel)⟩
theorem lw_p2 : lw_okq (⟨"LazyMotion$Motion", "reach", "(I)Z"⟩, 11) := ⟨⟨by decide +kernel, by decide +kernel⟩, List.mem_of_getElem? (i := 92) (by decide +kernel), List.mem_of_getElem? (i := 388) (by decide +kernel), List.mem_of_getElem? (i := 389) (by decide +kernel)⟩
theorem lw_p3 : lw_okq (⟨"LazyMotion$Motion", "readBlock", "(I)V"⟩, 11) := ⟨⟨by decide +kernel, by decide +kernel⟩, List.mem_of_getElem? (i := 92) (by decide +kernel), List.mem_of_getElem? (i := 392) (by decide +kernel), List.mem_of_getElem? (i := 393) (by decide +kernel)⟩
theorem lw_p4 : lw_okq (⟨"LazyMotion$Motion", "fillSets", "(I)V"⟩, 11) := ⟨⟨by decide +kernel, by decide +kernel⟩, List.mem_of_getElem? (i := 92) (by decide +kernel), List.mem_of_getElem? (i := 397) (by decide +kernel), List.mem_of_getElem? (i := 398) (by decide +kernel)⟩
theorem lw_p5 : lw_okq (⟨"LazyMotion$Motion", "flowThere", "()V"⟩, 11) := ⟨⟨by decide +kernel, by decide +kernel⟩, List.mem_of_getElem? (i := 92) (by decide +kernel), List.mem_of_getElem? (i := 401) (by decide +kernel), List.mem_of_getElem? (i := 402) (by decide +kernel)⟩
theorem lw_p6 : lw_okq (⟨"LazyMotion$Motion", "flowWanted", "()V"⟩, 11) := ⟨⟨by decide +kernel, by decide +kernel⟩, List.mem_of_getElem? (i := 92) (by decide +kernel), List.mem_of_getElem? (i := 408) (by decide +kernel), List.mem_of_getElem? (i := 409) (by decide +kernel)⟩
theorem lw_p7 : lw_okq (⟨"LazyMotion$Motion", "wantedByAll", "(II)J"⟩, 11) := ⟨⟨by decide +kernel, by decide +kernel⟩, List.mem_of_getElem? (i := 92) (by decide +kernel), List.mem_of_getElem? (i := 412) (by decide +kernel), List.mem_of_getElem? (i := 413) (by decide +kernel)⟩
theorem lw_p8 : lw_okq (⟨"LazyMotion$Motion", "flowLate", "()V"⟩, 11) := ⟨⟨by decide +kernel, by decide +kernel⟩, List.mem_of_getElem? (i := 92) (by decide +kernel), List.mem_of_getElem? (i := 416) (by decide +kernel), List.mem_of_getElem? (i := 417) (by decide +kernel)⟩
theorem lw_p9 : lw_okq (⟨"LazyMotion$Motion", "laterOn", "(II)J"⟩, 11) := ⟨⟨by decide +kernel, by decide +kernel⟩, List.mem_of_getElem? (i := 92) (by decide +kernel), List.mem_of_getElem? (i := 420) (by decide +kernel), List.mem_of_getElem? (i := 421) (by decide +kernel)⟩
theorem lw_p10 : lw_okq (⟨"LazyMotion$Motion", "narrowLate", "(II)Z"⟩, 11) := ⟨⟨by decide +kernel, by decide +kernel⟩, List.mem_of_getElem? (i := 92) (by decide +kernel), List.mem_of_getElem? (i := 424) (by decide +kernel), List.mem_of_getElem? (i := 425) (by decide +kernel)⟩
theorem lw_p11 : lw_okq (⟨"LazyMotion$Machine", "goAlong", "(J)V"⟩, 9) := ⟨⟨by decide +kernel, by decide +kernel⟩, List.mem_of_getElem? (i := 134) (by decide +kernel), List.mem_of_getElem? (i := 528) (by decide +kernel), List.mem_of_getElem? (i := 529) (by decide +kernel)⟩
theorem lw_p12 : lw_okq (⟨"LazyMotion$Machine", "compute", "(I)I"⟩, 9) := ⟨⟨by decide +kernel, by decide +kernel⟩, List.mem_of_getElem? (i := 134) (by decide +kernel), List.mem_of_getElem? (i := 532) (by decide +kernel), List.mem_of_getElem? (i := 533) (by decide +kernel)⟩
theorem lw_p13 : lw_okq (⟨"LazyMotion$Machine", "goThroughBlock", "(IJ)V"⟩, 9) := ⟨⟨by decide +kernel, by decide +kernel⟩, List.mem_of_getElem? (i := 134) (by decide +kernel), List.mem_of_getElem? (i := 540) (by decide +kernel), List.mem_of_getElem? (i := 541) (by decide +kernel)⟩
theorem lw_p14 : lw_okq (⟨"LazyMotion$Machine", "goThroughSimple", "(III)V"⟩, 9) := ⟨⟨by decide +kernel, by decide +kernel⟩, List.mem_of_getElem? (i := 134) (by decide +kernel), List.mem_of_getElem? (i := 545) (by decide +kernel), List.mem_of_getElem? (i := 546) (by decide +kernel)⟩
theorem lw_p15 : lw_okq (⟨"LazyMotion$Machine", "giveOut", "(I)V"⟩, 9) := ⟨⟨by decide +kernel, by decide +kernel⟩, List.mem_of_getElem? (i := 134) (by decide +kernel), List.mem_of_getElem? (i := 549) (by decide +kernel), List.mem_of_getElem? (i := 550) (by decide +kernel)⟩
def lw_privs_1 : List (MethodName × Nat) := [(⟨"java/lang/Throwable", "fillInStackTrace", "(I)Ljava/lang/Throwable;"⟩, 6), (⟨"LazyMotion$Motion", "findReached", "()V"⟩, 11), (⟨"LazyMotion$Motion", "reach", "(I)Z"⟩, 11), (⟨"LazyMotion$Motion", "readBlock", "(I)V"⟩, 11), (⟨"LazyMotion$Motion", "fillSets", "(I)V"⟩, 11), (⟨"LazyMotion$Motion", "flowThere", "()V"⟩, 11), (⟨"LazyMotion$Motion", "flowWanted", "()V"⟩, 11), (⟨"LazyMotion$Motion", "wantedByAll", "(II)J"⟩, 11), (⟨"LazyMotion$Motion", "flowLate", "()V"⟩, 11), (⟨"LazyMotion$Motion", "laterOn", "(II)J"⟩, 11), (⟨"LazyMotion$Motion", "narrowLate", "(II)Z"⟩, 11), (⟨"LazyMotion$Machine", "goAlong", "(J)V"⟩, 9), (⟨"LazyMotion$Machine", "compute", "(I)I"⟩, 9), (⟨"LazyMotion$Machine", "goThroughBlock", "(IJ)V"⟩, 9), (⟨"LazyMotion$Machine", "goThroughSimple", "(III)V"⟩, 9), (⟨"LazyMotion$Machine", "giveOut", "(I)V"⟩, 9)]
theorem lw_r1 : ∀ q ∈ lw_privs_1, lw_okq q := List.forall_mem_cons.mpr ⟨lw_p0, List.forall_mem_cons.mpr ⟨lw_p1, List.forall_mem_cons.mpr ⟨lw_p2, List.forall_mem_cons.mpr ⟨lw_p3, List.forall_mem_cons.mpr ⟨lw_p4, List.forall_mem_cons.mpr ⟨lw_p5, List.forall_mem_cons.mpr ⟨lw_p6, List.forall_mem_cons.mpr ⟨lw_p7, List.forall_mem_cons.mpr ⟨lw_p8, List.forall_mem_cons.mpr ⟨lw_p9, List.forall_mem_cons.mpr ⟨lw_p10, List.forall_mem_cons.mpr ⟨lw_p11, List.forall_mem_cons.mpr ⟨lw_p12, List.forall_mem_cons.mpr ⟨lw_p13, List.forall_mem_cons.mpr ⟨lw_p14, List.forall_mem_cons.mpr ⟨lw_p15, fun _ h => absurd h List.not_mem_nil⟩⟩⟩⟩⟩⟩⟩⟩⟩⟩⟩⟩⟩⟩⟩⟩
theorem lw_p16 : lw_okq (⟨"LazyMotionModel", "fail", "(I)I"⟩, 30) := ⟨⟨by decide +kernel, by decide +kernel⟩, List.mem_of_getElem? (i := 577) (by decide +kernel), List.mem_of_getElem? (i := 682) (by decide +kernel), List.mem_of_getElem? (i := 683) (by decide +kernel)⟩
theorem lw_p17 : lw_okq (⟨"LazyMotionModel", "find", "(III)I"⟩, 30) := ⟨⟨by decide +kernel, by decide +kernel⟩, List.mem_of_getElem? (i := 577) (by decide +kernel), List.mem_of_getElem? (i := 693) (by decide +kernel), List.mem_of_getElem? (i := 694) (by decide +kernel)⟩
theorem lw_p18 : lw_okq (⟨"LazyMotionModel", "whole", "()Z"⟩, 30) := ⟨⟨by decide +kernel, by decide +kernel⟩, List.mem_of_getElem? (i := 577) (by decide +kernel), List.mem_of_getElem? (i := 705) (by decide +kernel), List.mem_of_getElem? (i := 706) (by decide +kernel)⟩
theorem lw_p19 : lw_okq (⟨"LazyMotionModel", "next", "(II)I"⟩, 30) := ⟨⟨by decide +kernel, by decide +kernel⟩, List.mem_of_getElem? (i := 577) (by decide +kernel), List.mem_of_getElem? (i := 709) (by decide +kernel), List.mem_of_getElem? (i := 710) (by decide +kernel)⟩
theorem lw_p20 : lw_okq (⟨"LazyMotionModel", "reach", "()V"⟩, 30) := ⟨⟨by decide +kernel, by decide +kernel⟩, List.mem_of_getElem? (i := 577) (by decide +kernel), List.mem_of_getElem? (i := 713) (by decide +kernel), List.mem_of_getElem? (i := 714) (by decide +kernel)⟩
theorem lw_p21 : lw_okq (⟨"LazyMotionModel", "plans", "(I)V"⟩, 30) := ⟨⟨by decide +kernel, by decide +kernel⟩, List.mem_of_getElem? (i := 577) (by decide +kernel), List.mem_of_getElem? (i := 717) (by decide +kernel), List.mem_of_getElem? (i := 718) (by decide +kernel)⟩
theorem lw_p22 : lw_okq (⟨"LazyMotionModel", "look", "(II)V"⟩, 30) := ⟨⟨by decide +kernel, by decide +kernel⟩, List.mem_of_getElem? (i := 577) (by decide +kernel), List.mem_of_getElem? (i := 721) (by decide +kernel), List.mem_of_getElem? (i := 722) (by decide +kernel)⟩
theorem lw_p23 : lw_okq (⟨"LazyMotionModel", "gives", "(II)Z"⟩, 30) := ⟨⟨by decide +kernel, by decide +kernel⟩, List.mem_of_getElem? (i := 577) (by decide +kernel), List.mem_of_getElem? (i := 725) (by decide +kernel), List.mem_of_getElem? (i := 726) (by decide +kernel)⟩
theorem lw_p24 : lw_okq (⟨"LazyMotionModel", "settle", "(I)V"⟩, 30) := ⟨⟨by decide +kernel, by decide +kernel⟩, List.mem_of_getElem? (i := 577) (by decide +kernel), List.mem_of_getElem? (i := 729) (by decide +kernel), List.mem_of_getElem? (i := 730) (by decide +kernel)⟩
theorem lw_p25 : lw_okq (⟨"LazyMotionModel", "thereBefore", "(I)Z"⟩, 30) := ⟨⟨by decide +kernel, by decide +kernel⟩, List.mem_of_getElem? (i := 577) (by decide +kernel), List.mem_of_getElem? (i := 733) (by decide +kernel), List.mem_of_getElem? (i := 734) (by decide +kernel)⟩
theorem lw_p26 : lw_okq (⟨"LazyMotionModel", "edge", "(II)Z"⟩, 30) := ⟨⟨by decide +kernel, by decide +kernel⟩, List.mem_of_getElem? (i := 577) (by decide +kernel), List.mem_of_getElem? (i := 737) (by decide +kernel), List.mem_of_getElem? (i := 738) (by decide +kernel)⟩
theorem lw_p27 : lw_okq (⟨"LazyMotionModel", "wantedBehind", "(I)Z"⟩, 30) := ⟨⟨by decide +kernel, by decide +kernel⟩, List.mem_of_getElem? (i := 577) (by decide +kernel), List.mem_of_getElem? (i := 741) (by decide +kernel), List.mem_of_getElem? (i := 742) (by decide +kernel)⟩
theorem lw_p28 : lw_okq (⟨"LazyMotionModel", "lateBefore", "(I)Z"⟩, 30) := ⟨⟨by decide +kernel, by decide +kernel⟩, List.mem_of_getElem? (i := 577) (by decide +kernel), List.mem_of_getElem? (i := 745) (by decide +kernel), List.mem_of_getElem? (i := 746) (by decide +kernel)⟩
theorem lw_p29 : lw_okq (⟨"LazyMotionModel", "laterOn", "(II)Z"⟩, 30) := ⟨⟨by decide +kernel, by decide +kernel⟩, List.mem_of_getElem? (i := 577) (by decide +kernel), List.mem_of_getElem? (i := 749) (by decide +kernel), List.mem_of_getElem? (i := 750) (by decide +kernel)⟩
theorem lw_p30 : lw_okq (⟨"LazyMotionModel", "earliest", "(II)Z"⟩, 30) := ⟨⟨by decide +kernel, by decide +kernel⟩, List.mem_of_getElem? (i := 577) (by decide +kernel), List.mem_of_getElem? (i := 753) (by decide +kernel), List.mem_of_getElem? (i := 754) (by decide +kernel)⟩
theorem lw_p31 : lw_okq (⟨"LazyMotionModel", "mark", "(IIIZ)V"⟩, 30) := ⟨⟨by decide +kernel, by decide +kernel⟩, List.mem_of_getElem? (i := 577) (by decide +kernel), List.mem_of_getElem? (i := 757) (by decide +kernel), List.mem_of_getElem? (i := 758) (by decide +kernel)⟩
def lw_privs_2 : List (MethodName × Nat) := [(⟨"LazyMotionModel", "fail", "(I)I"⟩, 30), (⟨"LazyMotionModel", "find", "(III)I"⟩, 30), (⟨"LazyMotionModel", "whole", "()Z"⟩, 30), (⟨"LazyMotionModel", "next", "(II)I"⟩, 30), (⟨"LazyMotionModel", "reach", "()V"⟩, 30), (⟨"LazyMotionModel", "plans", "(I)V"⟩, 30), (⟨"LazyMotionModel", "look", "(II)V"⟩, 30), (⟨"LazyMotionModel", "gives", "(II)Z"⟩, 30), (⟨"LazyMotionModel", "settle", "(I)V"⟩, 30), (⟨"LazyMotionModel", "thereBefore", "(I)Z"⟩, 30), (⟨"LazyMotionModel", "edge", "(II)Z"⟩, 30), (⟨"LazyMotionModel", "wantedBehind", "(I)Z"⟩, 30), (⟨"LazyMotionModel", "lateBefore", "(I)Z"⟩, 30), (⟨"LazyMotionModel", "laterOn", "(II)Z"⟩, 30), (⟨"LazyMotionModel", "earliest", "(II)Z"⟩, 30), (⟨"LazyMotionModel", "mark", "(IIIZ)V"⟩, 30)]
theorem lw_r2 : ∀ q ∈ lw_privs_2, lw_okq q := List.forall_mem_cons.mpr ⟨lw_p16, List.forall_mem_cons.mpr ⟨lw_p17, List.forall_mem_cons.mpr ⟨lw_p18, List.forall_mem_cons.mpr ⟨lw_p19, List.forall_mem_cons.mpr ⟨lw_p20, List.forall_mem_cons.mpr ⟨lw_p21, List.forall_mem_cons.mpr ⟨lw_p22, List.forall_mem_cons.mpr ⟨lw_p23, List.forall_mem_cons.mpr ⟨lw_p24, List.forall_mem_cons.mpr ⟨lw_p25, List.forall_mem_cons.mpr ⟨lw_p26, List.forall_mem_cons.mpr ⟨lw_p27, List.forall_mem_cons.mpr ⟨lw_p28, List.forall_mem_cons.mpr ⟨lw_p29, List.forall_mem_cons.mpr ⟨lw_p30, List.forall_mem_cons.mpr ⟨lw_p31, fun _ h => absurd h List.not_mem_nil⟩⟩⟩⟩⟩⟩⟩⟩⟩⟩⟩⟩⟩⟩⟩⟩
theorem lw_p32 : lw_okq (⟨"LazyMotionModel", "isEdge", "(II)Z"⟩, 30) := ⟨⟨by decide +kernel, by decide +kernel⟩, List.mem_of_getElem? (i := 577) (by decide +kernel), List.mem_of_getElem? (i := 772) (by decide +kernel), List.mem_of_getElem? (i := 773) (by decide +kernel)⟩
theorem lw_p33 : lw_okq (⟨"LazyMotionModel", "cross", "(I)V"⟩, 30) := ⟨⟨by decide +kernel, by decide +kernel⟩, List.mem_of_getElem? (i := 577) (by decide +kernel), List.mem_of_getElem? (i := 784) (by decide +kernel), List.mem_of_getElem? (i := 785) (by decide +kernel)⟩
theorem lw_p34 : lw_okq (⟨"LazyMotionModel", "worked", "(I)I"⟩, 30) := ⟨⟨by decide +kernel, by decide +kernel⟩, List.mem_of_getElem? (i := 577) (by decide +kernel), List.mem_of_getElem? (i := 788) (by decide +kernel), List.mem_of_getElem? (i := 789) (by decide +kernel)⟩
theorem lw_p35 : lw_okq (⟨"LazyMotionModel", "pass", "(IZ)V"⟩, 30) := ⟨⟨by decide +kernel, by decide +kernel⟩, List.mem_of_getElem? (i := 577) (by decide +kernel), List.mem_of_getElem? (i := 792) (by decide +kernel), List.mem_of_getElem? (i := 793) (by decide +kernel)⟩
theorem lw_p36 : lw_okq (⟨"LazyMotionModel", "newly", "(II)I"⟩, 30) := ⟨⟨by decide +kernel, by decide +kernel⟩, List.mem_of_getElem? (i := 577) (by decide +kernel), List.mem_of_getElem? (i := 796) (by decide +kernel), List.mem_of_getElem? (i := 797) (by decide +kernel)⟩
def lw_privs_3 : List (MethodName × Nat) := [(⟨"LazyMotionModel", "isEdge", "(II)Z"⟩, 30), (⟨"LazyMotionModel", "cross", "(I)V"⟩, 30), (⟨"LazyMotionModel", "worked", "(I)I"⟩, 30), (⟨"LazyMotionModel", "pass", "(IZ)V"⟩, 30), (⟨"LazyMotionModel", "newly", "(II)I"⟩, 30)]
theorem lw_r3 : ∀ q ∈ lw_privs_3, lw_okq q := List.forall_mem_cons.mpr ⟨lw_p32, List.forall_mem_cons.mpr ⟨lw_p33, List.forall_mem_cons.mpr ⟨lw_p34, List.forall_mem_cons.mpr ⟨lw_p35, List.forall_mem_cons.mpr ⟨lw_p36, fun _ h => absurd h List.not_mem_nil⟩⟩⟩⟩⟩
def lw_privs : List (MethodName × Nat) := lw_privs_1 ++ (lw_privs_2 ++ (lw_privs_3))
def lw_tbl : List Cond := k2_sels lw_privs ++ tables_1
theorem lw_privs_ok : ∀ q ∈ lw_privs, lw_okq q := by
  show ∀ q ∈ lw_privs_1 ++ (lw_privs_2 ++ (lw_privs_3)), lw_okq q
  exact List.forall_mem_append.mpr ⟨lw_r1, List.forall_mem_append.mpr ⟨lw_r2, lw_r3⟩⟩

/-! ===== BEGIN words of one list among another's, by their places ===== -/
theorem goodIn_r {big : List Cond} (ws : List Cond) (ps : List Nat) (hp : ws = ps.filterMap (fun i => big[i]?)) (h : ws.all goodWord = true) : GoodIn big ws := by
  intro w hw
  have h1 := List.all_eq_true.mp h w hw
  rw [hp] at hw
  obtain ⟨i, -, hi⟩ := List.mem_filterMap.mp hw
  have hm : w ∈ big := by first | exact List.mem_of_getElem? hi | exact List.getElem?_mem hi
  exact ⟨hm, good_of_word h1⟩
theorem goodIn_app {big a b : List Cond} (ha : GoodIn big a) (hb : GoodIn big b) : GoodIn big (a ++ b) := fun w h => (List.mem_append.mp h).elim (ha w) (hb w)
theorem goodIn_ca {big a b : List Cond} {c : Cond} (ha : GoodIn big (c :: a)) (hb : GoodIn big b) : GoodIn big (c :: (a ++ b)) := fun w h => (List.mem_cons.mp h).elim (fun e => ha w (List.mem_cons.mpr (Or.inl e))) (fun h => (List.mem_append.mp h).elim (fun h => ha w (List.mem_cons.mpr (Or.inr h))) (hb w))
theorem goodIn_sub {big ws : List Cond} (hm : ∀ w ∈ ws, w ∈ big) (h : ws.all goodWord = true) : GoodIn big ws := fun w hw => ⟨hm w hw, good_of_word (List.all_eq_true.mp h w hw)⟩
/-! ===== END ===== -/

/-! ===== BEGIN exceptions that leave a method, and their catching by the caller (launches without stack traces) ===== -/
section VXA
/-! The laws vx_back, vx_callV, vx_callS, vx_callSW, vx_throw0, vx_throwS follow proofs of the library, with one case more: JvmDerived/Free/Laws.lean (Back.of_free), Shelf42/LK1.lean (callV, callS), Shelf/KitTraced.lean (throwNew0V, throwNewS). -/

/-- where a method has thrown q: the class by its name, the cell, what was written, the world -/
def vx_T (XC : String → State → State → Prop) (st : State) (q : Addr) (t : State) (mc ms : Nat) (free : Addr → Prop) : Prop :=
  ∃ (E : String) (ce : Cell) (L : List Loc), XC E st t ∧ t.heap[q]? = some ce ∧ ce.vm = .none ∧ st.vm.findClass E = some ce.cls ∧ st.WarmedH t.vm ∧ st.sameButNew ({ t with vm := st.vm } : State) L mc ms ∧ ∀ z ∈ L, free z.base
def vx_Q (Qc : Array Value → State → Outcome → State → Prop) (XC : String → State → State → Prop) (mc ms : Nat) (free : Addr → Prop) : Array Value → State → Outcome → State → Prop := fun a st o t =>
  (Qc a st o t ∧ ∃ L, FrameEnd st o t L mc ms ∧ ∀ q ∈ L, free q.base) ∨ ∃ q, o = .threw q ∧ vx_T XC st q t mc ms free
/-- a callee that returns or throws -/
def vx_Met (l : Launch) (y : MethodName) (ws : List Cond) (rm : Room) (Pc : Array Value → State → Prop) (Qc : Array Value → State → Outcome → State → Prop) (XC : String → State → State → Prop) (mc ms : Nat) (free : Addr → Prop) : Prop :=
  MetFree l y (headSpec ws rm) Pc (fun _ _ _ _ _ => True) (vx_Q Qc XC mc ms free)
def vx_Post (XC : String → State → State → Prop) (mc ms : Nat) (free : Addr → Prop) : Pt → Array Value → Addr → Pt → Prop := fun A a q B =>
  ∃ (g : JFrame) (mk : MethodId) (t : State) (L : List Loc) (E : String) (ce : Cell), B.U.heap = t.heap ∧ B.U.vm = t.vm ∧ XC E (A.U.calling g mk a) t ∧ t.heap[q]? = some ce ∧ ce.vm = .none ∧ A.U.vm.findClass E = some ce.cls ∧ B.locs = A.locs ++ L ∧ (∀ z ∈ L, free z.base) ∧ B.cells = A.cells + mc ∧ B.slots = A.slots + ms
def vx_Back (l : Launch) (R : Room) (p : Program) (e : Env) (below : List Frame) (s : State) (sargs : Array Value) (y : MethodName) (len W9 : Nat)
    (Pre : Pt → Array Value → Prop) (Post : Pt → Array Value → Option Value → Pt → Prop) (PostX : Pt → Array Value → Addr → Pt → Prop) : Prop :=
  ∀ (m : MethodId) (meth : Method) (c : Code) (A : Pt) (g : JFrame) (ig : Instr) (mk : MethodId) (a : Array Value),
    Stand p l e R s m sargs below meth c A.U A.locs A.cells A.slots → g.method = m → g.locals.size = c.maxLocals → decode c.code g.pc = .ok (ig, len) →
    2 * g.monitorRoom + (g.stack.map fun v => v.category).sum ≤ W9 → A.U.methodNamed? y = some mk → Pre A a →
    (∃ (v : Option Value) (B : Pt), Stand p l e R s m sargs below meth c B.U B.locs B.cells B.slots ∧ Post A a v B ∧
      Steps p.tables e below (doInvoke e (A.U.setTop g) [] mk a).1 (B.U.setTop { g with pc := g.pc + len, stack := v.toList ++ g.stack })) ∨
    (∃ (q : Addr) (B : Pt), Stand p l e R s m sargs below meth c B.U B.locs B.cells B.slots ∧ PostX A a q B ∧
      Steps p.tables e below (doInvoke e (A.U.setTop g) [] mk a).1 ((B.U.setTop g).pushFrame (.throwing q)))
section Payer
variable {l : Launch} {R : Room} {p : Program} {e : Env} {below : List Frame} {s : State} {sargs : Array Value} {y : MethodName} {len W9 : Nat}
theorem vx_back {ws : List Cond} {rm : Room} {Pc : Array Value → State → Prop} {Qc : Array Value → State → Outcome → State → Prop} {XC : String → State → State → Prop} {mc ms : Nat} {free : Addr → Prop} {bytes : ByteArray} {maxL : Nat} {ret : Option FieldType}
    (hM : vx_Met l y ws rm Pc Qc XC mc ms free) (hblind : FrameBlind Pc) (hrc : rm.cells = mc) (hrs : rm.slots = ms)
    (hframes : rm.frames + 1 ≤ R.frames) (hlocals : W9 + (maxL + 11) + rm.locals ≤ R.locals)
    (hws : ∀ w ∈ ws, ∀ a' U, s.WarmedH U.vm → w.before a' U = true) (hcode : Cond.code y bytes maxL ret ∈ ws) (hinit : ∀ a' U, s.WarmedH U.vm → (Cond.initialized y.cls).before a' U = true) :
    vx_Back l R p e below s sargs y len W9 (PreOf R mc ms Pc) (PostOf Qc mc ms free) (vx_Post XC mc ms free) := by
  intro m meth c A g ig mk a X hg hsize hdg hW hn hp
  have h1 : (headSpec ws rm).pre.before a A.U = true := atoms_intro fun w hw => hws w hw _ _ X.warmed
  have h2 : (Cond.code y bytes maxL ret).before a A.U = true := hws _ hcode _ _ X.warmed
  have h3 : (Cond.initialized y.cls).before a A.U = true := hinit _ _ X.warmed
  have h4 : A.cells + (headSpec ws rm).room.cells ≤ R.cells := by rw [show (headSpec ws rm).room.cells = mc from hrc]; exact hp.1
  have h5 : A.slots + (headSpec ws rm).room.slots ≤ R.slots := by rw [show (headSpec ws rm).room.slots = ms from hrs]; exact hp.2.1
  have hPc : Pc a (A.U.calling g mk a) := hblind _ _ _ _ hp.2.2
  obtain ⟨U, Ls, c0, s0⟩ := A
  dsimp only [Pt.U, Pt.locs, Pt.cells, Pt.slots] at h1 h2 h3 h4 h5 X hn hPc ⊢
  obtain ⟨methY, cY, hmY, hcY, -, hlY, -, -, -, -⟩ := Cond.code_spec hn h2
  obtain ⟨kY, hkY, -⟩ := className_of_methodNamed hn
  have hinitY : kY.init = .initialized := Cond.initialized_spec (findClass_of_methodNamed hn) hkY h3
  have h : At U g.method c below := by rw [hg]; exact X.here
  have hlocals9 : W9 + (maxL + 11) + (headSpec ws rm).room.locals ≤ R.locals := hlocals
  have happ : (headSpec ws rm).appliesLoose y e.platform (U.calling g mk a) = true :=
    Spec.appliesLoose_calling (g := g) h hdg hn hkY hinitY
      (X.room_calling (g := g) (R' := (headSpec ws rm).room) hsize hmY hcY hframes (by rw [hlY]; omega) h4 h5) h1
  obtain ⟨mid, hmid⟩ := h.above
  have hfr : (U.setTop g).frames = (.java g :: mid) ++ below := by rw [State.frames_setTop' g h.top, hmid]; rfl
  obtain ⟨o, s₂, hsteps, -, hend, hq⟩ := Steps.callFree hM p X.admits X.cas X.clock (acts := []) hfr happ hPc trivial
  have hq' : vx_Q Qc XC mc ms free a (U.calling g mk a) o s₂ := hq
  rw [State.frames_setTop' g h.top] at hend
  obtain ⟨g₀, hg0⟩ := Option.isSome_iff_exists.mp h.top
  obtain ⟨r, hr⟩ := State.topJava?_eq_some.mp hg0
  have hr' : (({ U with heap := s₂.heap, slotsUsed := s₂.slotsUsed } : State).setVm s₂.vm).frames = .java g₀ :: r := hr
  rcases hq' with ⟨hqc, L, hfe, hL⟩ | ⟨q, rfl, E, ce, L, hx, hce, hcv, hcl, hW₂, hsm, hL⟩
  · obtain ⟨⟨v, rfl⟩, hW₂, e2, q2, q3, q4, q5, q6⟩ := id hfe
    have e3 : s₂ = ({ (U.calling g mk a).setFrames s₂.frames with heap := s₂.heap, slotsUsed := s₂.slotsUsed } : State).setVm s₂.vm := by
      have : s₂ = ({ s₂ with vm := (U.calling g mk a).vm } : State).setVm s₂.vm := rfl
      rw [e2] at this
      exact this
    obtain ⟨c₂, i₂, len₂, hc₂, hd₂, hf₂⟩ := hend
    have hW' : U.WarmedH s₂.vm := hW₂
    have hcc : c₂ = c := by
      have h1 : s₂.code? g.method = U.code? g.method := by
        rw [State.code?_eq, State.code?_eq, hW'.alike.method?]
      exact Option.some.inj (hc₂.symm.trans (h1.trans h.code))
    subst hcc
    have hlen : len₂ = len := by rw [hdg] at hd₂; cases hd₂; rfl
    subst hlen
    have hs₂ : s₂ = (({ U with heap := s₂.heap, slotsUsed := s₂.slotsUsed } : State).setVm s₂.vm).setTop { g with pc := g.pc + len₂, stack := v.toList ++ g.stack } := by
      refine e3.trans ?_
      rw [hf₂, State.calling_eq h.top, State.setFrames_setFrames, State.setTop_of_frames _ hr', hr]
      rfl
    have hsame : U.sameButNew ({ U with heap := s₂.heap, slotsUsed := s₂.slotsUsed } : State) L mc ms := by
      refine ⟨?_, q2, q3, q4, q5, q6⟩
      obtain ⟨t, ht, -⟩ := State.frames_cons hr
      show ({ U with heap := s₂.heap, slotsUsed := s₂.slotsUsed } : State) = { U.setFrames U.frames with heap := s₂.heap, slotsUsed := s₂.slotsUsed }
      rw [State.setFrames_self ht]
    subst hg
    refine Or.inl ⟨v, ⟨(({ U with heap := s₂.heap, slotsUsed := s₂.slotsUsed } : State).setVm s₂.vm), Ls ++ L, c0 + mc, s0 + ms⟩,
      ⟨X.admits, X.cas, X.clock, X.frames, X.room, X.hears, X.method, X.code, (X.here.setHeapUsed s₂.heap s₂.slotsUsed).setVm hW'.alike, X.tail, State.WarmedH.trans X.warmed hW', X.limits, X.bytes, X.same.trans (hsame.setVm s.vm)⟩,
      ⟨g, mk, s₂, L, rfl, rfl, hqc, rfl, hL, rfl, rfl⟩, ?_⟩
    show Steps p.tables e below _ ((({ U with heap := s₂.heap, slotsUsed := s₂.slotsUsed } : State).setVm s₂.vm).setTop { g with pc := g.pc + len₂, stack := v.toList ++ g.stack })
    rw [← hs₂]
    exact hsteps
  · obtain ⟨e2, q2, q3, q4, q5, q6⟩ := id hsm
    have e3 : s₂ = ({ (U.calling g mk a).setFrames s₂.frames with heap := s₂.heap, slotsUsed := s₂.slotsUsed } : State).setVm s₂.vm := by
      have : s₂ = ({ s₂ with vm := (U.calling g mk a).vm } : State).setVm s₂.vm := rfl
      rw [e2] at this
      exact this
    have hf₂ : s₂.frames = .throwing q :: .java g :: U.frames.tail := hend
    have hW' : U.WarmedH s₂.vm := hW₂
    have hs₂ : s₂ = ((({ U with heap := s₂.heap, slotsUsed := s₂.slotsUsed } : State).setVm s₂.vm).setTop g).pushFrame (.throwing q) := by
      refine e3.trans ?_
      rw [hf₂, State.calling_eq h.top, State.setFrames_setFrames, State.pushFrame, State.frames_setTop _ hr', State.setTop_of_frames _ hr', State.setFrames_setFrames, hr]
      rfl
    have hsame : U.sameButNew ({ U with heap := s₂.heap, slotsUsed := s₂.slotsUsed } : State) L mc ms := by
      refine ⟨?_, q2, q3, q4, q5, q6⟩
      obtain ⟨t, ht, -⟩ := State.frames_cons hr
      show ({ U with heap := s₂.heap, slotsUsed := s₂.slotsUsed } : State) = { U.setFrames U.frames with heap := s₂.heap, slotsUsed := s₂.slotsUsed }
      rw [State.setFrames_self ht]
    subst hg
    refine Or.inr ⟨q, ⟨(({ U with heap := s₂.heap, slotsUsed := s₂.slotsUsed } : State).setVm s₂.vm), Ls ++ L, c0 + mc, s0 + ms⟩,
      ⟨X.admits, X.cas, X.clock, X.frames, X.room, X.hears, X.method, X.code, (X.here.setHeapUsed s₂.heap s₂.slotsUsed).setVm hW'.alike, X.tail, State.WarmedH.trans X.warmed hW', X.limits, X.bytes, X.same.trans (hsame.setVm s.vm)⟩,
      ⟨g, mk, s₂, L, E, ce, rfl, rfl, hx, hce, hcv, hcl, rfl, hL, rfl, rfl⟩, ?_⟩
    show Steps p.tables e below _ (((({ U with heap := s₂.heap, slotsUsed := s₂.slotsUsed } : State).setVm s₂.vm).setTop g).pushFrame (.throwing q))
    rw [← hs₂]
    exact hsteps
end Payer
section Calls
variable {p : Program} {l : Launch} {e : Env} {R : Room} {s : State} {m : MethodId} {args : Array Value} {below : List Frame} {meth : Method} {c : Code} {T : State} {locs : List Loc} {cells slots : Nat}
theorem vx_callV (X : Stand p l e R s m args below meth c T locs cells slots) (hexec : p.tables.exec = Jvm.exec) {own C : String} {index : Nat} {y : MethodName} {bytes : ByteArray} {maxL : Nat} {ret : Option FieldType}
    (hown : s.vm.findClass own = some m.cls) (hlink : (Cond.methodLink own index y).before args s = true) (hinst : (Cond.instanceMethod y).before args s = true) (hsel : (Cond.selects C y y).before args s = true)
    (hcode : (Cond.code y bytes maxL ret).before args s = true) (hy : y.cls ≠ "java/lang/invoke/MethodHandle" ∧ y.cls ≠ "java/lang/invoke/VarHandle")
    {W9 : Nat} {Pre : Pt → Array Value → Prop} {Post : Pt → Array Value → Option Value → Pt → Prop} {PostX : Pt → Array Value → Addr → Pt → Prop} (hK : vx_Back l R p e below s args y 3 W9 Pre Post PostX)
    {b : Addr} {cellB : Cell} (hcell : T.heap[b]? = some cellB) (hobj : cellB.vm.isStatics = false) (hcls : s.vm.findClass C = some cellB.cls)
    {g : JFrame} (hg : g.method = m) (hsize : g.locals.size = c.maxLocals) {argsL rest : List Value} (hlen : ∀ sig, parseMethodDescriptor y.desc = some sig → argsL.length = sig.parameters.length)
    (hstack : g.stack = argsL.reverse ++ .ref b :: rest) (hW : 2 * g.monitorRoom + (rest.map fun v => v.category).sum ≤ W9) (hdg : decode c.code g.pc = .ok (.invokevirtual index, 3))
    (hpre : ∀ vm₁, s.WarmedH vm₁ → Pre ⟨T.setVm vm₁, locs, cells, slots⟩ (Value.ref b :: argsL).toArray) :
    (∃ (v : Option Value) (vm₁ : Vm) (B : Pt), s.WarmedH vm₁ ∧ Stand p l e R s m args below meth c B.U B.locs B.cells B.slots ∧ Post ⟨T.setVm vm₁, locs, cells, slots⟩ (Value.ref b :: argsL).toArray v B ∧
      ∀ target, Steps p.tables e below (B.U.setTop { g with pc := g.pc + 3, stack := v.toList ++ rest }) target → Steps p.tables e below (T.setTop g) target) ∨
    (∃ (q : Addr) (vm₁ : Vm) (B : Pt), s.WarmedH vm₁ ∧ Stand p l e R s m args below meth c B.U B.locs B.cells B.slots ∧ PostX ⟨T.setVm vm₁, locs, cells, slots⟩ (Value.ref b :: argsL).toArray q B ∧
      Steps p.tables e below (T.setTop g) ((B.U.setTop { g with stack := rest }).pushFrame (.throwing q))) := by
  obtain ⟨mk, methM, hnamed, hmethM, hstM, habM⟩ := Cond.instanceMethod_spec hinst
  obtain ⟨methM', cM, hmethM', -, -, -, -, -, -, hsigM⟩ := Cond.code_spec hnamed hcode
  cases hmethM.symm.trans hmethM'
  obtain ⟨c2, r2, m2, q1, q2, q3, q4, kP, hkP, hkPi⟩ := Cond.selects_spec hsel
  cases hcls.symm.trans q1
  cases (State.methodFound?_of_named hnamed hy).symm.trans q2
  cases hnamed.symm.trans q3
  have hselP : selectMethod e.platform s.vm cellB.cls mk = .method mk := by rw [Launch.admits_selectMethod X.admits]; exact q4
  obtain ⟨vm₁, X₁, hstep₁⟩ := X.invokevirtual hexec hown hlink hnamed hmethM hstM hkP hkPi hy (a := b) (cell := cellB) hcell
    (fun z h => by rw [h] at hobj; cases hobj) hselP hmethM habM hkP hkPi (g := g) hg (argsL := argsL) (rest := rest) (hlen _ hsigM) hstack hdg
  rcases hK m meth c ⟨T.setVm vm₁, locs, cells, slots⟩ { g with stack := rest } (.invokevirtual index) mk (Value.ref b :: argsL).toArray X₁ hg hsize hdg hW (X₁.named hnamed) (hpre vm₁ X₁.warmed) with ⟨v, B, X', hpost, hsteps⟩ | ⟨q, B, X', hpost, hsteps⟩
  · exact Or.inl ⟨v, vm₁, B, X₁.warmed, X', hpost, fun target h => hstep₁ _ fun acts => by rw [doInvoke_state]; exact hsteps.trans h⟩
  · exact Or.inr ⟨q, vm₁, B, X₁.warmed, X', hpost, hstep₁ _ fun acts => by rw [doInvoke_state]; exact hsteps⟩
theorem vx_callS (X : Stand p l e R s m args below meth c T locs cells slots) (hexec : p.tables.exec = Jvm.exec) {own : String} {index : Nat} {y : MethodName} {bytes : ByteArray} {maxL : Nat} {ret : Option FieldType}
    (hown : s.vm.findClass own = some m.cls) (hlink : (Cond.methodLink own index y).before args s = true) (hstat : (Cond.static y).before args s = true) (hinit : (Cond.initialized y.cls).before args s = true)
    (hcode : (Cond.code y bytes maxL ret).before args s = true) (hy : y.cls ≠ "java/lang/invoke/MethodHandle" ∧ y.cls ≠ "java/lang/invoke/VarHandle")
    {W9 : Nat} {Pre : Pt → Array Value → Prop} {Post : Pt → Array Value → Option Value → Pt → Prop} {PostX : Pt → Array Value → Addr → Pt → Prop} (hK : vx_Back l R p e below s args y 3 W9 Pre Post PostX)
    {g : JFrame} (hg : g.method = m) (hsize : g.locals.size = c.maxLocals) {argsL rest : List Value} (hlen : ∀ sig, parseMethodDescriptor y.desc = some sig → argsL.length = sig.parameters.length)
    (hstack : g.stack = argsL.reverse ++ rest) (hW : 2 * g.monitorRoom + (rest.map fun v => v.category).sum ≤ W9) (hdg : decode c.code g.pc = .ok (.invokestatic index, 3))
    (hpre : ∀ vm₁, s.WarmedH vm₁ → Pre ⟨T.setVm vm₁, locs, cells, slots⟩ argsL.toArray) :
    (∃ (v : Option Value) (vm₁ : Vm) (B : Pt), s.WarmedH vm₁ ∧ Stand p l e R s m args below meth c B.U B.locs B.cells B.slots ∧ Post ⟨T.setVm vm₁, locs, cells, slots⟩ argsL.toArray v B ∧
      ∀ target, Steps p.tables e below (B.U.setTop { g with pc := g.pc + 3, stack := v.toList ++ rest }) target → Steps p.tables e below (T.setTop g) target) ∨
    (∃ (q : Addr) (vm₁ : Vm) (B : Pt), s.WarmedH vm₁ ∧ Stand p l e R s m args below meth c B.U B.locs B.cells B.slots ∧ PostX ⟨T.setVm vm₁, locs, cells, slots⟩ argsL.toArray q B ∧
      Steps p.tables e below (T.setTop g) ((B.U.setTop { g with stack := rest }).pushFrame (.throwing q))) := by
  obtain ⟨mk, hnamed⟩ := Cond.code_named hcode
  obtain ⟨methM, cM, hmethM, -, -, -, -, -, -, hsigM⟩ := Cond.code_spec hnamed hcode
  have hstatic : methM.isStatic = true := Cond.static_spec hnamed hmethM hstat
  obtain ⟨kP, hkP, -⟩ := className_of_methodNamed hnamed
  have hinitP : kP.init = .initialized := Cond.initialized_spec (findClass_of_methodNamed hnamed) hkP hinit
  obtain ⟨vm₁, X₁, hstep₁⟩ := X.invokestatic hexec hown hlink hnamed hmethM hstatic hkP hinitP hy (g := g) hg (argsL := argsL) (rest := rest) (hlen _ hsigM) hstack hdg
  rcases hK m meth c ⟨T.setVm vm₁, locs, cells, slots⟩ { g with stack := rest } (.invokestatic index) mk argsL.toArray X₁ hg hsize hdg hW (X₁.named hnamed) (hpre vm₁ X₁.warmed) with ⟨v, B, X', hpost, hsteps⟩ | ⟨q, B, X', hpost, hsteps⟩
  · exact Or.inl ⟨v, vm₁, B, X₁.warmed, X', hpost, fun target h => hstep₁ _ fun acts => by rw [doInvoke_state]; exact hsteps.trans h⟩
  · exact Or.inr ⟨q, vm₁, B, X₁.warmed, X', hpost, hstep₁ _ fun acts => by rw [doInvoke_state]; exact hsteps⟩
end Calls
theorem vx_cls {s : State} {T : State} {vm₁ : Vm} {E : String} {k : ClassId} (hW : s.WarmedH vm₁) (h : (T.setVm vm₁).vm.findClass E = some k) : s.vm.findClass E = some k := by
  have h1 : vm₁.findClass E = some k := h
  rw [hW.alike.findClass] at h1
  exact h1
/-- the method's frame g, with q thrown over it -/
def vx_W (p : Program) (l : Launch) (e : Env) (R : Room) (s : State) (m : MethodId) (args : Array Value) (below : List Frame) (meth : Method) (c : Code) (H : Heap) (locs : List Loc) (cells slots : Nat) (Q : State → Prop) (g : JFrame) (q : Addr) : Prop :=
  ∀ T : State, T.heap = H → Stand p l e R s m args below meth c T locs cells slots → ∃ t, Steps p.tables e below ((T.setTop g).pushFrame (.throwing q)) t ∧ Q t
def vx_Run (p : Program) (l : Launch) (e : Env) (R : Room) (s : State) (m : MethodId) (args : Array Value) (below : List Frame) (meth : Method) (c : Code) (H : Heap) (locs : List Loc) (cells slots mc ms : Nat) (g : JFrame) (rest : List Value) (Qa : State → Outcome → State → Prop) (XC : String → State → State → Prop) (free : Addr → Prop) : Prop :=
  ∀ T : State, T.heap = H → Stand p l e R s m args below meth c T locs cells slots →
    (∃ (v : Option Value) (st₀ t T' : State) (L : List Loc), st₀.heap = H ∧ Stand p l e R s m args below meth c T' (locs ++ L) (cells + mc) (slots + ms) ∧ (∀ q ∈ L, free q.base) ∧ T'.heap = t.heap ∧ T'.vm = t.vm ∧ Qa st₀ (.returned v) t ∧
      Goes p e below T g T' { g with pc := g.pc + 3, stack := v.toList ++ rest }) ∨
    (∃ (q : Addr) (st₀ t T' : State) (L : List Loc) (E : String) (ce : Cell), st₀.heap = H ∧ Stand p l e R s m args below meth c T' (locs ++ L) (cells + mc) (slots + ms) ∧ (∀ z ∈ L, free z.base) ∧ T'.heap = t.heap ∧ T'.vm = t.vm ∧ XC E st₀ t ∧ t.heap[q]? = some ce ∧ ce.vm = .none ∧ s.vm.findClass E = some ce.cls ∧
      Steps p.tables e below (T.setTop g) ((T'.setTop { g with stack := rest }).pushFrame (.throwing q)))
def vx_X {S : Type} (px : S → Prop) (B : String → S → State → Prop) (A : Nat → Prop) : String → State → State → Prop := fun E st t => ∃ u : S, px u ∧ B E u t ∧ va_F A st t
section Runs
variable {p : Program} {l : Launch} {e : Env} {R : Room} {s : State} {m : MethodId} {args : Array Value} {below : List Frame} {meth : Method} {c : Code} {H : Heap} {locs : List Loc} {cells slots : Nat}
variable {y : MethodName} {bytes cc : ByteArray} {maxL nL mc ms n index : Nat} {ret : Option FieldType} {ws : List Cond} {rm : Room} {Pc : Array Value → State → Prop} {Qc : Array Value → State → Outcome → State → Prop} {XC : String → State → State → Prop} {free : Addr → Prop} {Ts : List Cond} {own C : String} {b : Addr} {As rest : List Value} {g : JFrame}
theorem vx_callBack (cb : CallB R s args own index y bytes maxL ret ws rm mc ms n) (hM : vx_Met l y ws rm Pc Qc XC mc ms free) (hbl : FrameBlind Pc) : vx_Back l R p e below s args y 3 8 (PreOf R mc ms Pc) (PostOf Qc mc ms free) (vx_Post XC mc ms free) := by
  obtain ⟨hrc, hrs, hfr, hlo, hws, hcw, -, hini, -⟩ := cb
  exact vx_back (bytes := bytes) (maxL := maxL) (ret := ret) hM hbl hrc hrs hfr hlo hws hcw (fun a' U hW => word_at hW (Or.inl (by first | rfl | simp [Cond.onTables, Cond.keeps, Cond.steady])) hini)
theorem vx_runV (S : CallFix p m c cc nL s args Ts own) (hM : vx_Met l y ws rm Pc Qc XC mc ms free) (cw : CallW R s args own C index y bytes maxL ret ws rm mc ms n) (hp : PreV s H C b Pc As)
    (hg : g.method = m) (hn : As.length = n) (hsize : g.locals.size = nL) (hstack : g.stack = As.reverse ++ .ref b :: rest) (hW : 2 * g.monitorRoom + (rest.map fun v => v.category).sum ≤ 8) (hdg : decode cc g.pc = .ok (.invokevirtual index, 3)) (hf : cells + mc ≤ R.cells ∧ slots + ms ≤ R.slots) :
    vx_Run p l e R s m args below meth c H locs cells slots mc ms g rest (Qc (Value.ref b :: As).toArray) XC free := by
  have hK : vx_Back l R p e below s args y 3 8 (PreOf R mc ms Pc) (PostOf Qc mc ms free) (vx_Post XC mc ms free) := vx_callBack cw.1 hM hp.1
  obtain ⟨⟨-, -, -, -, -, -, hcode, -, hy, hlen, hl⟩, hin, hse⟩ := cw
  obtain ⟨hx, hb, hml, ho, -⟩ := S
  obtain ⟨-, ⟨cellB, hcB, hoB, hclB⟩, hPc⟩ := hp
  intro T hT X
  rcases vx_callV X hx (C := C) (bytes := bytes) (maxL := maxL) (ret := ret) ho hl hin hse hcode hy hK (by rw [hT]; exact hcB) hoB hclB hg (hsize.trans hml.symm) (argsL := As) (rest := rest) (fun sig h => hn.trans (hlen sig h)) hstack hW (by rw [hb]; exact hdg)
    (fun vm₁ hW₁ => ⟨hf.1, hf.2, hPc (T.setVm vm₁) hT hW₁⟩) with ⟨v, vm₁, ⟨U', l2, c2, s2⟩, hW₁, X', ⟨g', mk, t, L, e1, e2, hq, h1, hL, h2, h3⟩, st⟩ | ⟨q, vm₁, ⟨U', l2, c2, s2⟩, hW₁, X', ⟨g', mk, t, L, E, ce, e1, e2, hq, hce, hcv, hcl, h1, hL, h2, h3⟩, st⟩
  · dsimp only [Pt.U, Pt.locs, Pt.cells, Pt.slots] at X' e1 e2 h1 h2 h3 st
    subst h1; subst h2; subst h3
    exact Or.inl ⟨v, (T.setVm vm₁).calling g' mk (Value.ref b :: As).toArray, t, U', L, hT, X', hL, e1, e2, hq, st⟩
  · dsimp only [Pt.U, Pt.locs, Pt.cells, Pt.slots] at X' e1 e2 h1 h2 h3 st hcl
    subst h1; subst h2; subst h3
    exact Or.inr ⟨q, (T.setVm vm₁).calling g' mk (Value.ref b :: As).toArray, t, U', L, E, ce, hT, X', hL, e1, e2, hq, hce, hcv, vx_cls hW₁ hcl, st⟩
theorem vx_runS (S : CallFix p m c cc nL s args Ts own) (hM : vx_Met l y ws rm Pc Qc XC mc ms free) (cw : CallB R s args own index y bytes maxL ret ws rm mc ms n ∧ (Cond.static y).before args s = true) (hp : PreS s H Pc As)
    (hg : g.method = m) (hn : As.length = n) (hsize : g.locals.size = nL) (hstack : g.stack = As.reverse ++ rest) (hW : 2 * g.monitorRoom + (rest.map fun v => v.category).sum ≤ 8) (hdg : decode cc g.pc = .ok (.invokestatic index, 3)) (hf : cells + mc ≤ R.cells ∧ slots + ms ≤ R.slots) :
    vx_Run p l e R s m args below meth c H locs cells slots mc ms g rest (Qc As.toArray) XC free := by
  have hK : vx_Back l R p e below s args y 3 8 (PreOf R mc ms Pc) (PostOf Qc mc ms free) (vx_Post XC mc ms free) := vx_callBack cw.1 hM hp.1
  obtain ⟨⟨-, -, -, -, -, -, hcode, hini, hy, hlen, hl⟩, hstt⟩ := cw
  obtain ⟨hx, hb, hml, ho, -⟩ := S
  intro T hT X
  rcases vx_callS X hx (bytes := bytes) (maxL := maxL) (ret := ret) ho hl hstt hini hcode hy hK hg (hsize.trans hml.symm) (argsL := As) (rest := rest) (fun sig h => hn.trans (hlen sig h)) hstack hW (by rw [hb]; exact hdg)
    (fun vm₁ hW₁ => ⟨hf.1, hf.2, hp.2 (T.setVm vm₁) hT hW₁⟩) with ⟨v, vm₁, ⟨U', l2, c2, s2⟩, hW₁, X', ⟨g', mk, t, L, e1, e2, hq, h1, hL, h2, h3⟩, st⟩ | ⟨q, vm₁, ⟨U', l2, c2, s2⟩, hW₁, X', ⟨g', mk, t, L, E, ce, e1, e2, hq, hce, hcv, hcl, h1, hL, h2, h3⟩, st⟩
  · dsimp only [Pt.U, Pt.locs, Pt.cells, Pt.slots] at X' e1 e2 h1 h2 h3 st
    subst h1; subst h2; subst h3
    exact Or.inl ⟨v, (T.setVm vm₁).calling g' mk As.toArray, t, U', L, hT, X', hL, e1, e2, hq, st⟩
  · dsimp only [Pt.U, Pt.locs, Pt.cells, Pt.slots] at X' e1 e2 h1 h2 h3 st hcl
    subst h1; subst h2; subst h3
    exact Or.inr ⟨q, (T.setVm vm₁).calling g' mk As.toArray, t, U', L, E, ce, hT, X', hL, e1, e2, hq, hce, hcv, vx_cls hW₁ hcl, st⟩
end Runs
section Rows
variable {p : Program} {l : Launch} {e : Env} {R : Room} {s : State} {m : MethodId} {args : Array Value} {below : List Frame} {meth : Method} {c : Code} {H : Heap} {locs : List Loc} {cells slots : Nat} {Q : State → Prop}
variable {mc ms : Nat} {free : Addr → Prop} {A0 A1 : Nat → Prop} {H0 : Heap} {a : Array Value} {pc : Nat} {ls : Array Slot} {st0 rest : List Value}
theorem vx_keep {st₀ t T' : State} {L : List Loc} (h0 : st₀.heap = H) (e1 : T'.heap = t.heap) (hS : va_S A0 H0 H locs) (hA : ∀ q, q < H.size → A1 q → A0 q) (hf : ∀ q, free q → A0 q) (hL : ∀ q ∈ L, free q.base) (hF : va_F A1 st₀ t) :
    H.size ≤ T'.heap.size ∧ (∀ q : Nat, q < H.size → ¬ A1 q → T'.heap[q]? = H[q]?) ∧ va_S A0 H0 T'.heap (locs ++ L) := by
  obtain ⟨hz, hk⟩ := hF
  rw [h0] at hz hk
  exact ⟨by rw [e1]; exact hz, fun q h1 h2 => by rw [e1]; exact hk q h1 h2,
    ⟨Nat.le_trans hS.1 (by rw [e1]; exact hz), fun q h1 h2 => by rw [e1, hk q (Nat.lt_of_lt_of_le h1 hS.1) (fun z => h2 (hA q (Nat.lt_of_lt_of_le h1 hS.1) z))]; exact hS.2.1 q h1 h2, fun q hq => by
      rcases List.mem_append.mp hq with h | h
      · exact hS.2.2 q h
      · exact hf _ (hL q h)⟩⟩
theorem vx_calli {S SX : Type} {post : Int32 → S → Prop} {px : SX → Prop} {B : S → State → Prop} {BX : String → SX → State → Prop} {AX : Nat → Prop} (hr : vx_Run p l e R s m args below meth c H locs cells slots mc ms (F0 m pc ls st0) rest (va_Qi post B A1 a) (vx_X px BX AX) free) (hS : va_S A0 H0 H locs) (hA : ∀ q, q < H.size → A1 q → A0 q) (hf : ∀ q, free q → A0 q) (hAX : ∀ q, q < H.size → AX q → A0 q)
    (kx : ∀ (E : String) (ce : Cell) (q9 : Addr) (u : SX) (t : State) (H1 : Heap) (locs1 : List Loc), t.heap = H1 → s.vm.Alike t.vm → px u → BX E u t → H.size ≤ H1.size → (∀ q : Nat, q < H.size → ¬ AX q → H1[q]? = H[q]?) → va_S A0 H0 H1 locs1 → H1[q9]? = some ce → ce.vm = .none → s.vm.findClass E = some ce.cls → vx_W p l e R s m args below meth c H1 locs1 (cells + mc) (slots + ms) Q (F0 m pc ls rest) q9)
    (kk : ∀ (r : Int32) (u : S) (t : State) (H1 : Heap) (locs1 : List Loc), t.heap = H1 → s.vm.Alike t.vm → post r u → B u t → H.size ≤ H1.size → (∀ q : Nat, q < H.size → ¬ A1 q → H1[q]? = H[q]?) → va_S A0 H0 H1 locs1 → W p l e R s m args below meth c H1 locs1 (cells + mc) (slots + ms) Q (F0 m (pc + 3) ls (.int r :: rest))) : W p l e R s m args below meth c H locs cells slots Q (F0 m pc ls st0) := by
  intro T hT X
  rcases hr T hT X with ⟨v, st₀, t, T', L, h0, X', hL, e1, e2, ⟨⟨r, u, hv, hp, hb⟩, hF⟩, st⟩ | ⟨q, st₀, t, T', L, E, ce, h0, X', hL, e1, e2, ⟨u, hp, hb, hF⟩, hce, hcv, hcl, st⟩
  · cases hv
    obtain ⟨k1, k2, k3⟩ := vx_keep h0 e1 hS hA hf hL hF
    obtain ⟨t2, a1, b1⟩ := kk r u t T'.heap (locs ++ L) e1.symm (by rw [← e2]; exact X'.warmed.alike) hp hb k1 k2 k3 T' rfl X'
    exact ⟨t2, st t2 a1, b1⟩
  · obtain ⟨k1, k2, k3⟩ := vx_keep h0 e1 hS hAX hf hL hF
    obtain ⟨t2, a1, b1⟩ := kx E ce q u t T'.heap (locs ++ L) e1.symm (by rw [← e2]; exact X'.warmed.alike) hp hb k1 k2 k3 (by rw [e1]; exact hce) hcv hcl T' rfl X'
    exact ⟨t2, st.trans a1, b1⟩
theorem vx_calll {S SX : Type} {post : Int64 → S → Prop} {px : SX → Prop} {B : S → State → Prop} {BX : String → SX → State → Prop} {AX : Nat → Prop} (hr : vx_Run p l e R s m args below meth c H locs cells slots mc ms (F0 m pc ls st0) rest (va_Ql post B A1 a) (vx_X px BX AX) free) (hS : va_S A0 H0 H locs) (hA : ∀ q, q < H.size → A1 q → A0 q) (hf : ∀ q, free q → A0 q) (hAX : ∀ q, q < H.size → AX q → A0 q)
    (kx : ∀ (E : String) (ce : Cell) (q9 : Addr) (u : SX) (t : State) (H1 : Heap) (locs1 : List Loc), t.heap = H1 → s.vm.Alike t.vm → px u → BX E u t → H.size ≤ H1.size → (∀ q : Nat, q < H.size → ¬ AX q → H1[q]? = H[q]?) → va_S A0 H0 H1 locs1 → H1[q9]? = some ce → ce.vm = .none → s.vm.findClass E = some ce.cls → vx_W p l e R s m args below meth c H1 locs1 (cells + mc) (slots + ms) Q (F0 m pc ls rest) q9)
    (kk : ∀ (r : Int64) (u : S) (t : State) (H1 : Heap) (locs1 : List Loc), t.heap = H1 → s.vm.Alike t.vm → post r u → B u t → H.size ≤ H1.size → (∀ q : Nat, q < H.size → ¬ A1 q → H1[q]? = H[q]?) → va_S A0 H0 H1 locs1 → W p l e R s m args below meth c H1 locs1 (cells + mc) (slots + ms) Q (F0 m (pc + 3) ls (.long r :: rest))) : W p l e R s m args below meth c H locs cells slots Q (F0 m pc ls st0) := by
  intro T hT X
  rcases hr T hT X with ⟨v, st₀, t, T', L, h0, X', hL, e1, e2, ⟨⟨r, u, hv, hp, hb⟩, hF⟩, st⟩ | ⟨q, st₀, t, T', L, E, ce, h0, X', hL, e1, e2, ⟨u, hp, hb, hF⟩, hce, hcv, hcl, st⟩
  · cases hv
    obtain ⟨k1, k2, k3⟩ := vx_keep h0 e1 hS hA hf hL hF
    obtain ⟨t2, a1, b1⟩ := kk r u t T'.heap (locs ++ L) e1.symm (by rw [← e2]; exact X'.warmed.alike) hp hb k1 k2 k3 T' rfl X'
    exact ⟨t2, st t2 a1, b1⟩
  · obtain ⟨k1, k2, k3⟩ := vx_keep h0 e1 hS hAX hf hL hF
    obtain ⟨t2, a1, b1⟩ := kx E ce q u t T'.heap (locs ++ L) e1.symm (by rw [← e2]; exact X'.warmed.alike) hp hb k1 k2 k3 (by rw [e1]; exact hce) hcv hcl T' rfl X'
    exact ⟨t2, st.trans a1, b1⟩
theorem vx_callf {S SX : Type} {post : UInt32 → S → Prop} {px : SX → Prop} {B : S → State → Prop} {BX : String → SX → State → Prop} {AX : Nat → Prop} (hr : vx_Run p l e R s m args below meth c H locs cells slots mc ms (F0 m pc ls st0) rest (va_Qf post B A1 a) (vx_X px BX AX) free) (hS : va_S A0 H0 H locs) (hA : ∀ q, q < H.size → A1 q → A0 q) (hf : ∀ q, free q → A0 q) (hAX : ∀ q, q < H.size → AX q → A0 q)
    (kx : ∀ (E : String) (ce : Cell) (q9 : Addr) (u : SX) (t : State) (H1 : Heap) (locs1 : List Loc), t.heap = H1 → s.vm.Alike t.vm → px u → BX E u t → H.size ≤ H1.size → (∀ q : Nat, q < H.size → ¬ AX q → H1[q]? = H[q]?) → va_S A0 H0 H1 locs1 → H1[q9]? = some ce → ce.vm = .none → s.vm.findClass E = some ce.cls → vx_W p l e R s m args below meth c H1 locs1 (cells + mc) (slots + ms) Q (F0 m pc ls rest) q9)
    (kk : ∀ (r : UInt32) (u : S) (t : State) (H1 : Heap) (locs1 : List Loc), t.heap = H1 → s.vm.Alike t.vm → post r u → B u t → H.size ≤ H1.size → (∀ q : Nat, q < H.size → ¬ A1 q → H1[q]? = H[q]?) → va_S A0 H0 H1 locs1 → W p l e R s m args below meth c H1 locs1 (cells + mc) (slots + ms) Q (F0 m (pc + 3) ls (.float r :: rest))) : W p l e R s m args below meth c H locs cells slots Q (F0 m pc ls st0) := by
  intro T hT X
  rcases hr T hT X with ⟨v, st₀, t, T', L, h0, X', hL, e1, e2, ⟨⟨r, u, hv, hp, hb⟩, hF⟩, st⟩ | ⟨q, st₀, t, T', L, E, ce, h0, X', hL, e1, e2, ⟨u, hp, hb, hF⟩, hce, hcv, hcl, st⟩
  · cases hv
    obtain ⟨k1, k2, k3⟩ := vx_keep h0 e1 hS hA hf hL hF
    obtain ⟨t2, a1, b1⟩ := kk r u t T'.heap (locs ++ L) e1.symm (by rw [← e2]; exact X'.warmed.alike) hp hb k1 k2 k3 T' rfl X'
    exact ⟨t2, st t2 a1, b1⟩
  · obtain ⟨k1, k2, k3⟩ := vx_keep h0 e1 hS hAX hf hL hF
    obtain ⟨t2, a1, b1⟩ := kx E ce q u t T'.heap (locs ++ L) e1.symm (by rw [← e2]; exact X'.warmed.alike) hp hb k1 k2 k3 (by rw [e1]; exact hce) hcv hcl T' rfl X'
    exact ⟨t2, st.trans a1, b1⟩
theorem vx_calld {S SX : Type} {post : UInt64 → S → Prop} {px : SX → Prop} {B : S → State → Prop} {BX : String → SX → State → Prop} {AX : Nat → Prop} (hr : vx_Run p l e R s m args below meth c H locs cells slots mc ms (F0 m pc ls st0) rest (va_Qd post B A1 a) (vx_X px BX AX) free) (hS : va_S A0 H0 H locs) (hA : ∀ q, q < H.size → A1 q → A0 q) (hf : ∀ q, free q → A0 q) (hAX : ∀ q, q < H.size → AX q → A0 q)
    (kx : ∀ (E : String) (ce : Cell) (q9 : Addr) (u : SX) (t : State) (H1 : Heap) (locs1 : List Loc), t.heap = H1 → s.vm.Alike t.vm → px u → BX E u t → H.size ≤ H1.size → (∀ q : Nat, q < H.size → ¬ AX q → H1[q]? = H[q]?) → va_S A0 H0 H1 locs1 → H1[q9]? = some ce → ce.vm = .none → s.vm.findClass E = some ce.cls → vx_W p l e R s m args below meth c H1 locs1 (cells + mc) (slots + ms) Q (F0 m pc ls rest) q9)
    (kk : ∀ (r : UInt64) (u : S) (t : State) (H1 : Heap) (locs1 : List Loc), t.heap = H1 → s.vm.Alike t.vm → post r u → B u t → H.size ≤ H1.size → (∀ q : Nat, q < H.size → ¬ A1 q → H1[q]? = H[q]?) → va_S A0 H0 H1 locs1 → W p l e R s m args below meth c H1 locs1 (cells + mc) (slots + ms) Q (F0 m (pc + 3) ls (.double r :: rest))) : W p l e R s m args below meth c H locs cells slots Q (F0 m pc ls st0) := by
  intro T hT X
  rcases hr T hT X with ⟨v, st₀, t, T', L, h0, X', hL, e1, e2, ⟨⟨r, u, hv, hp, hb⟩, hF⟩, st⟩ | ⟨q, st₀, t, T', L, E, ce, h0, X', hL, e1, e2, ⟨u, hp, hb, hF⟩, hce, hcv, hcl, st⟩
  · cases hv
    obtain ⟨k1, k2, k3⟩ := vx_keep h0 e1 hS hA hf hL hF
    obtain ⟨t2, a1, b1⟩ := kk r u t T'.heap (locs ++ L) e1.symm (by rw [← e2]; exact X'.warmed.alike) hp hb k1 k2 k3 T' rfl X'
    exact ⟨t2, st t2 a1, b1⟩
  · obtain ⟨k1, k2, k3⟩ := vx_keep h0 e1 hS hAX hf hL hF
    obtain ⟨t2, a1, b1⟩ := kx E ce q u t T'.heap (locs ++ L) e1.symm (by rw [← e2]; exact X'.warmed.alike) hp hb k1 k2 k3 (by rw [e1]; exact hce) hcv hcl T' rfl X'
    exact ⟨t2, st.trans a1, b1⟩
theorem vx_callv {S SX : Type} {post : S → Prop} {px : SX → Prop} {B : S → State → Prop} {BX : String → SX → State → Prop} {AX : Nat → Prop} (hr : vx_Run p l e R s m args below meth c H locs cells slots mc ms (F0 m pc ls st0) rest (va_Qv post B A1 a) (vx_X px BX AX) free) (hS : va_S A0 H0 H locs) (hA : ∀ q, q < H.size → A1 q → A0 q) (hf : ∀ q, free q → A0 q) (hAX : ∀ q, q < H.size → AX q → A0 q)
    (kx : ∀ (E : String) (ce : Cell) (q9 : Addr) (u : SX) (t : State) (H1 : Heap) (locs1 : List Loc), t.heap = H1 → s.vm.Alike t.vm → px u → BX E u t → H.size ≤ H1.size → (∀ q : Nat, q < H.size → ¬ AX q → H1[q]? = H[q]?) → va_S A0 H0 H1 locs1 → H1[q9]? = some ce → ce.vm = .none → s.vm.findClass E = some ce.cls → vx_W p l e R s m args below meth c H1 locs1 (cells + mc) (slots + ms) Q (F0 m pc ls rest) q9)
    (kk : ∀ (u : S) (t : State) (H1 : Heap) (locs1 : List Loc), t.heap = H1 → s.vm.Alike t.vm → post u → B u t → H.size ≤ H1.size → (∀ q : Nat, q < H.size → ¬ A1 q → H1[q]? = H[q]?) → va_S A0 H0 H1 locs1 → W p l e R s m args below meth c H1 locs1 (cells + mc) (slots + ms) Q (F0 m (pc + 3) ls (rest))) : W p l e R s m args below meth c H locs cells slots Q (F0 m pc ls st0) := by
  intro T hT X
  rcases hr T hT X with ⟨v, st₀, t, T', L, h0, X', hL, e1, e2, ⟨⟨u, hv, hp, hb⟩, hF⟩, st⟩ | ⟨q, st₀, t, T', L, E, ce, h0, X', hL, e1, e2, ⟨u, hp, hb, hF⟩, hce, hcv, hcl, st⟩
  · cases hv
    obtain ⟨k1, k2, k3⟩ := vx_keep h0 e1 hS hA hf hL hF
    obtain ⟨t2, a1, b1⟩ := kk u t T'.heap (locs ++ L) e1.symm (by rw [← e2]; exact X'.warmed.alike) hp hb k1 k2 k3 T' rfl X'
    exact ⟨t2, st t2 a1, b1⟩
  · obtain ⟨k1, k2, k3⟩ := vx_keep h0 e1 hS hAX hf hL hF
    obtain ⟨t2, a1, b1⟩ := kx E ce q u t T'.heap (locs ++ L) e1.symm (by rw [← e2]; exact X'.warmed.alike) hp hb k1 k2 k3 (by rw [e1]; exact hce) hcv hcl T' rfl X'
    exact ⟨t2, st.trans a1, b1⟩
/-- caught by the row x of this method's table; the rows ahead don't take it -/
theorem vx_catch {own name : String} {E : String} {ce : Cell} {q : Addr} (hown : s.vm.findClass own = some m.cls) (pre : List ExceptionTableEntry) (x : ExceptionTableEntry) (suf : List ExceptionTableEntry) (hsplit : c.exceptionTable.toList = pre ++ x :: suf)
    (hpass : ∀ z ∈ pre, covers z pc = false ∨ (z.catchType ≠ 0 ∧ ∃ nm : String, (Cond.classLink own z.catchType nm).before args s = true ∧ va_Nc E nm s)) (hx : covers x pc = true) (h0 : x.catchType ≠ 0)
    (hlink : (Cond.classLink own x.catchType name).before args s = true) (hcast : (Cond.castable E name).before args s = true) (hcell : H[q]? = some ce) (hv : ce.vm = .none) (hcl : s.vm.findClass E = some ce.cls)
    (kk : W p l e R s m args below meth c H locs cells slots Q (F0 m x.handlerPc ls [.ref q])) : vx_W p l e R s m args below meth c H locs cells slots Q (F0 m pc ls rest) q := by
  intro T hT X
  have hpl : e.platform.magicAccessors = ({} : Platform).magicAccessors := by rw [X.admits.platform]
  obtain ⟨c3, c4, hc3, hc4, hasg⟩ := Cond.castable_spec hcast
  cases Option.some.inj (hc3.symm.trans hcl)
  obtain ⟨c5, hc5, hcl5⟩ := Cond.classLink_spec hown hlink e.platform hpl
  cases Option.some.inj (hc4.symm.trans hc5)
  obtain ⟨vm', X', st⟩ := X.thenCaughtThrough q (g := F0 m pc ls rest) rfl (Steps.refl _) (by rw [hT]; exact hcell) (by rw [hv]; rfl) (by obtain ⟨k9, h9, -⟩ := Vm.findClass_spec hcl; exact ⟨k9, h9⟩) pre x suf hsplit
    (fun z hz => by
      rcases hpass z hz with h | ⟨hz0, nm, hl1, hn1⟩
      · exact Or.inl h
      · obtain ⟨c6, hc6, hcl6⟩ := Cond.classLink_spec hown hl1 e.platform hpl
        obtain ⟨a8, b8, h1, h2, h3⟩ := hn1
        cases Option.some.inj (h1.symm.trans hcl)
        cases Option.some.inj (h2.symm.trans hc6)
        exact Or.inr ⟨hz0, _, hcl6, h3⟩) hx (Or.inr ⟨h0, c4, hcl5, hasg⟩)
  obtain ⟨t, a1, b1⟩ := kk (T.setVm vm') hT X'
  exact ⟨t, st.trans a1, b1⟩
end Rows
section Ends
variable {p : Program} {l : Launch} {e : Env} {R : Room} {s : State} {m : MethodId} {args : Array Value} {below : List Frame} {meth : Method} {c : Code} {H : Heap} {locs : List Loc} {cells slots : Nat} {Q : State → Prop}
variable {mc ms : Nat} {free : Addr → Prop} {A0 A1 : Nat → Prop} {H0 : Heap} {a : Array Value} {ls : Array Slot} {st0 rest : List Value}
variable {Qc : Array Value → State → Outcome → State → Prop} {XC : String → State → State → Prop}
/-- what a body that may throw owes at its end -/
def vx_MQ (below : List Frame) (Qc : Array Value → State → Outcome → State → Prop) (XC : String → State → State → Prop) (a : Array Value) (s : State) (mc ms : Nat) (free : Addr → Prop) : State → Prop := fun t =>
  ∃ o, t.status = .running ∧ Ended t below o ∧ vx_Q Qc XC mc ms free a s o t
theorem vx_ret {g : JFrame} {mc ms : Nat} (k : W p l e R s m args below meth c H locs cells slots (MQ below Qc args s mc ms free) g) : W p l e R s m args below meth c H locs cells slots (vx_MQ below Qc XC args s mc ms free) g := by
  intro T hT X
  obtain ⟨t, a1, o, b1, b2, b3, b4⟩ := k T hT X
  exact ⟨t, a1, o, b1, b2, Or.inl ⟨b3, b4⟩⟩
/-- not caught here: it goes on to the caller -/
theorem vx_widen {g : JFrame} {q : Addr} {k n : Nat} (h1 : cells ≤ k) (h2 : slots ≤ n) (kk : vx_W p l e R s m args below meth c H locs k n Q g q) : vx_W p l e R s m args below meth c H locs cells slots Q g q := fun T hT X => kk T hT (stand_widen X h1 h2)
theorem vx_out {pc : Nat} {E : String} {ce : Cell} {q : Addr} {mc ms : Nat} (hout : ∀ x ∈ c.exceptionTable.toList, covers x pc = false) (hlocks : meth.locks = false) (hcell : H[q]? = some ce) (hv : ce.vm = .none) (hcl : s.vm.findClass E = some ce.cls)
    (hx : ∀ t : State, t.heap = H → s.vm.Alike t.vm → XC E s t) (hf : ∀ z ∈ locs, free z.base) (hc : cells ≤ mc) (hs : slots ≤ ms) :
    vx_W p l e R s m args below meth c H locs cells slots (vx_MQ below Qc XC args s mc ms free) (F0 m pc ls rest) q := by
  intro T hT X
  obtain ⟨st1, hrun, hend, hW, hsm⟩ := X.leaveThrown q (g := F0 m pc ls rest) rfl rfl rfl hout hlocks
  have hcell9 : (T.setFrames (.throwing q :: below)).heap[q]? = some ce := by
    show T.heap[q]? = some ce
    rw [hT]; exact hcell
  exact ⟨_, st1, .threw q, hrun, hend, Or.inr ⟨q, rfl, E, ce, locs, hx _ hT hW.alike, hcell9, hv, hcl, hW, hsm.mono hc hs, hf⟩⟩
theorem vx_frame {U : State} {k n : Nat} (h : s.sameButNew ({ U with vm := s.vm } : State) locs k n) : s.heap.size ≤ U.heap.size ∧ ∀ q : Nat, q < s.heap.size → (∀ z ∈ locs, z.base ≠ q) → U.heap[q]? = s.heap[q]? := by
  obtain ⟨-, h2, -, -, -, h6⟩ := h
  refine ⟨h2, fun q hq hz => ?_⟩
  obtain ⟨c9, e1, e2, e3, e4⟩ := h6 q _ (Array.getElem?_eq_getElem hq)
  have hs : c9.slots = (s.heap[q]).slots := Array.ext_getElem? fun i => e4 i fun hm => hz _ hm rfl
  have h9 : c9 = s.heap[q] := by
    rw [hs] at e2
    exact e2
  have e5 : U.heap[q]? = some c9 := e1
  rw [e5, h9, Array.getElem?_eq_getElem hq]
/-- the words of a throw but the four that speak of the heap -/
def vx_no (w : Cond) : Bool := decide (w ≠ .isRef (.static Bundle.tN "UNASSIGNED_STACK" Bundle.steD)) && decide (w ≠ .isRef (.static Bundle.tN "SUPPRESSED_SENTINEL" Bundle.listD)) && decide (w ≠ .laysStatic Bundle.tN "UNASSIGNED_STACK" Bundle.steD) && decide (w ≠ .laysStatic Bundle.tN "SUPPRESSED_SENTINEL" Bundle.listD)
def vx_at0 (own : String) (ic : Nat) (X : String) (names : List String) : List Cond := (Bundle.ownAtoms0 own ic X names).filter vx_no
def vx_atS (own : String) (ic : Nat) (X : String) (names : List String) : List Cond := (Bundle.ownAtoms own ic X names).filter vx_no
/-- a word that the tables alone decide, or a good one -/
def vx_ot (w : Cond) : Bool := w.onTables || goodWord w
theorem vx_ot_at {args a' : Array Value} {s U : State} {w : Cond} (hW : s.WarmedH U.vm) (hvm : s.vm = U.vm) (hg : vx_ot w = true) (h : w.before args s = true) : w.before a' U = true := by
  simp only [vx_ot, Bool.or_eq_true] at hg
  rcases hg with hg | hg
  · exact va_tabs hg hvm h
  · exact word_at hW (good_of_word hg) h
/-- a list's words: the good ones out of the method's own list, the others by premises of their own -/
theorem vx_hat {args : Array Value} {s : State} {L B : List Cond} (h1 : ∀ w ∈ L.filter goodWord, w.before args s = true) (h2 : ∀ w ∈ L.filter (fun w => !goodWord w), w ∈ B) (h3 : ∀ w ∈ B, w.before args s = true) : ∀ w ∈ L, w.before args s = true := by
  intro w hw
  by_cases g : goodWord w = true
  · exact h1 w (List.mem_filter.mpr ⟨hw, g⟩)
  · refine h3 w (h2 w (List.mem_filter.mpr ⟨hw, ?_⟩))
    show (!goodWord w) = true
    cases hgw : goodWord w
    · rfl
    · exact absurd hgw g
theorem vx_c {args : Array Value} {s : State} {w : Cond} {B : List Cond} (h : w.before args s = true) (t : ∀ w ∈ B, w.before args s = true) : ∀ w' ∈ w :: B, w'.before args s = true := fun w' h' => (List.mem_cons.mp h').elim (fun e => by rw [e]; exact h) (t w')
theorem vx_n {args : Array Value} {s : State} : ∀ w ∈ ([] : List Cond), w.before args s = true := fun _ h => nomatch h
theorem vx_own {args : Array Value} {s : State} {L : List Cond} (h1 : ∀ w ∈ L.filter vx_no, w.before args s = true)
    (hU : (Cond.isRef (.static Bundle.tN "UNASSIGNED_STACK" Bundle.steD)).before args s = true) (hN : (Cond.isRef (.static Bundle.tN "SUPPRESSED_SENTINEL" Bundle.listD)).before args s = true)
    (lU : (Cond.laysStatic Bundle.tN "UNASSIGNED_STACK" Bundle.steD).before args s = true) (lN : (Cond.laysStatic Bundle.tN "SUPPRESSED_SENTINEL" Bundle.listD).before args s = true) : ∀ w ∈ L, w.before args s = true := by
  intro w hw
  by_cases e1 : w = .isRef (.static Bundle.tN "UNASSIGNED_STACK" Bundle.steD)
  · rw [e1]; exact hU
  · by_cases e2 : w = .isRef (.static Bundle.tN "SUPPRESSED_SENTINEL" Bundle.listD)
    · rw [e2]; exact hN
    · by_cases e3 : w = .laysStatic Bundle.tN "UNASSIGNED_STACK" Bundle.steD
      · rw [e3]; exact lU
      · by_cases e4 : w = .laysStatic Bundle.tN "SUPPRESSED_SENTINEL" Bundle.listD
        · rw [e4]; exact lN
        · exact h1 w (List.mem_filter.mpr ⟨hw, by unfold vx_no; rw [decide_eq_true e1, decide_eq_true e2, decide_eq_true e3, decide_eq_true e4]; rfl⟩)
/-- where a static field lies, its class's statics cell in H -/
def vx_L (C n d : String) (A : Nat → Prop) (U : State) (H : Heap) : Prop := ∃ (c : ClassId) (k : Class) (i : Nat) (f : Field) (a : Nat) (cell : Cell), U.vm.findClass C = some c ∧ U.fieldFound? C n d = some (c, k, i, f) ∧ f.isStatic = true ∧ k.statics = some a ∧ H[a]? = some cell ∧ cell.vm.isStatics = true ∧ cell.cls = c ∧ f.slot < cell.slots.size ∧ k.staticTypes[f.slot]? = some f.type ∧ ¬ A a
theorem vx_L.moved {C n d : String} {A : Nat → Prop} {u U : State} {H : Heap} (hvm : u.vm.Alike U.vm) (h : vx_L C n d A u H) : vx_L C n d A U H := by
  obtain ⟨c, k, i, f, a, cell, h1, h2, h3, h4, h5, h6, h7, h8, h9, h10⟩ := h
  obtain ⟨k', hi', he⟩ := State.fieldFound?_setVm hvm h2
  exact ⟨c, k', i, f, a, cell, by rw [hvm.findClass]; exact h1, hi', h3, by rw [he]; exact h4, h5, h6, h7, h8, by rw [he]; exact h9, h10⟩
theorem vx_L.kept {C n d : String} {A : Nat → Prop} {U : State} {H H1 : Heap} (h : vx_L C n d A U H) (hq : ∀ a : Nat, a < H.size → ¬ A a → H1[a]? = H[a]?) : vx_L C n d A U H1 := by
  obtain ⟨c, k, i, f, a, cell, h1, h2, h3, h4, h5, h6, h7, h8, h9, h10⟩ := h
  exact ⟨c, k, i, f, a, cell, h1, h2, h3, h4, by rw [hq a (Array.getElem?_eq_some_iff.mp h5).1 h10]; exact h5, h6, h7, h8, h9, h10⟩
theorem vx_L.narrow {C n d : String} {A B : Nat → Prop} {U : State} {H : Heap} (h : vx_L C n d A U H) (hAB : ∀ q, B q → A q) : vx_L C n d B U H := by
  obtain ⟨c, k, i, f, a, cell, h1, h2, h3, h4, h5, h6, h7, h8, h9, h10⟩ := h
  exact ⟨c, k, i, f, a, cell, h1, h2, h3, h4, h5, h6, h7, h8, h9, fun z => h10 (hAB _ z)⟩
theorem vx_L.word {C n d : String} {A : Nat → Prop} {s : State} {args : Array Value} (h : vx_L C n d A s s.heap) : (Cond.laysStatic C n d).before args s = true := by
  obtain ⟨c, k, i, f, a, cell, h1, h2, h3, h4, h5, h6, h7, h8, h9, -⟩ := h
  show (Cond.laysStatic C n d).holds args s none s [] = true
  exact Cond.laysStatic_of h1 h2 h3 h4 h5 h6 h7 h8 h9
/-- .. and what it holds: null or some reference -/
def vx_Zq (C n d : String) (A : Nat → Prop) (U : State) (H : Heap) : Prop := va_Zq C n d A U H ∧ vx_L C n d A U H
theorem vx_Zq.moved {C n d : String} {A : Nat → Prop} {u U : State} {H : Heap} (hvm : u.vm.Alike U.vm) (h : vx_Zq C n d A u H) : vx_Zq C n d A U H := ⟨va_Zq.moved hvm h.1, vx_L.moved hvm h.2⟩
theorem vx_Zq.kept {C n d : String} {A : Nat → Prop} {U : State} {H H1 : Heap} (h : vx_Zq C n d A U H) (hq : ∀ a : Nat, a < H.size → ¬ A a → H1[a]? = H[a]?) : vx_Zq C n d A U H1 := ⟨va_Zq.kept h.1 hq, vx_L.kept h.2 hq⟩
theorem vx_Zq.narrow {C n d : String} {A B : Nat → Prop} {U : State} {H : Heap} (h : vx_Zq C n d A U H) (hAB : ∀ q, B q → A q) : vx_Zq C n d B U H := ⟨va_Zq.narrow h.1 hAB, vx_L.narrow h.2 hAB⟩
theorem vx_Zqof {args : Array Value} {s : State} {C n d : String} {A : Nat → Prop} (hl : (Cond.laysStatic C n d).before args s = true) (hini : (Cond.initialized C).before args s = true) (h : (Cond.isRef (.static C n d)).before args s = true) (hA : ∀ a : Nat, a < s.heap.size → ¬ A a) : vx_Zq C n d A s s.heap := by
  refine ⟨va_Zqof hl hini h hA, ?_⟩
  obtain ⟨c, k, i, f, a, cell, h1, h2, h3, h4, h5, h6, h7, h8, h9⟩ := Cond.laysStatic_spec hl
  exact ⟨c, k, i, f, a, cell, h1, h2, h3, h4, h5, h6, h7, h8, h9, hA a (Array.getElem?_eq_some_iff.mp h5).1⟩
theorem vx_isRef {C n d : String} {v : Value} {A : Nat → Prop} {s : State} {args : Array Value} (h : va_Z C n d v A s s.heap) (hv : v.isRef = true) : (Cond.isRef (.static C n d)).before args s = true := by
  obtain ⟨cf, kf, fi, f, a, cell, h1, h2, h3, h4, h5, h6, h7, -⟩ := h
  have he : (Term.static C n d).eval args s none [] s = some v := by
    simp [Term.eval, State.fieldNamed?, h1, h2, h4, h5, h6, h7]
  simp only [Cond.before, Cond.holds, Cond.value, he]
  cases v <;> simp_all [Value.isRef]
theorem vx_isRefq {C n d : String} {A : Nat → Prop} {s : State} {args : Array Value} (h : va_Zq C n d A s s.heap) : (Cond.isRef (.static C n d)).before args s = true := by
  rcases h with h | ⟨t, h⟩
  · exact vx_isRef h rfl
  · exact vx_isRef h rfl
/-- the same frame, seen from here: as if the method were called anew in this heap -/
theorem vx_rebase {T : State} (X : Stand p l e R s m args below meth c T locs cells slots) {R' : Room} (hf : R'.frames ≤ R.frames) (hl : R'.locals ≤ R.locals) (hc : cells + R'.cells ≤ R.cells) (hs : slots + R'.slots ≤ R.slots) :
    Stand p l e R' ((T.setVm s.vm).setFrames (.invoking m args :: below)) m args below meth c T [] 0 0 := by
  have htop : (T.setVm s.vm).topJava?.isSome := X.here.top
  have hF : ((T.setVm s.vm).setFrames (.invoking m args :: below)).frames = .invoking m args :: below := State.frames_setFrames _ (State.cur_lt_of_top htop)
  obtain ⟨g₀, hg0⟩ := Option.isSome_iff_exists.mp htop
  obtain ⟨r, hr⟩ := State.topJava?_eq_some.mp hg0
  have hl9 : e.platform.stackLimits (T.setVm s.vm).me = e.platform.stackLimits s.me := X.limits
  have hb9 : (T.setVm s.vm).me.stackBytes = s.me.stackBytes := X.bytes
  refine ⟨X.admits, X.cas, X.clock, hF, ?_, X.hears, X.method, X.code, X.here, X.tail, X.warmed, ?_, ?_, ?_⟩
  · have h := X.room
    have hU : ((T.setVm s.vm).setFrames (.invoking m args :: below)).localsInUse = s.localsInUse := by
      rw [State.localsInUse_invoking hF (meth := meth) (c := c) X.method X.code, State.localsInUse_invoking X.frames X.method X.code]
    simp only [State.hasRoom, Bool.and_eq_true, decide_eq_true_eq] at h ⊢
    obtain ⟨⟨⟨⟨h1, h2, h3, h4, h5, h6⟩, h7⟩, h8⟩, h9⟩ := h
    rw [X.frames, List.length_cons] at h2 h3
    have q1 := X.heapSize
    have q2 := X.used
    simp only [hF, hU, List.length_cons, State.stackLimits_setFrames, State.stackBytes_setFrames, hl9, hb9]
    refine ⟨⟨⟨⟨by omega, by omega, by omega, by omega, by omega, h6⟩, ?_⟩, ?_⟩, X.book⟩
    · show T.heap.size + R'.cells ≤ e.platform.maxCells
      omega
    · show T.slotsUsed + R'.slots ≤ e.platform.maxSlots
      omega
  · rw [State.stackLimits_setFrames]; rfl
  · rw [State.stackBytes_setFrames]; rfl
  · refine ⟨?_, Nat.le_refl _, Nat.le_refl _, ?_, ?_, fun a c9 h9 => ⟨c9, h9, rfl, rfl, fun _ _ => rfl⟩⟩
    · obtain ⟨t, ht, -⟩ := State.frames_cons hr
      show T.setVm s.vm = { ((T.setVm s.vm).setFrames (.invoking m args :: below)).setFrames (T.setVm s.vm).frames with heap := T.heap, slotsUsed := T.slotsUsed }
      rw [State.setFrames_setFrames, State.setFrames_self ht]
      rfl
    · show T.slotsUsed = T.slotsUsed + ((T.heap.toList.drop T.heap.size).map (·.slots.size)).sum
      rw [List.drop_eq_nil_of_le (Nat.le_of_eq Array.length_toList)]
      rfl
    · show ((T.heap.toList.drop T.heap.size).map (·.slots.size)).sum ≤ 0
      rw [List.drop_eq_nil_of_le (Nat.le_of_eq Array.length_toList)]
      exact Nat.le_refl _
/-- 'throw new E()': new; dup; invokespecial; athrow -/
theorem vx_throw0 {cc : ByteArray} {pc : Nat} (hexec : p.tables.exec = Jvm.exec) (hb : c.code = cc) (hl : l.stackTraces = false) {own cls : String} {names : List String} {ik ic mc ms : Nat} {A : Nat → Prop}
    (hown : s.vm.findClass own = some m.cls) (hcls : Bundle.fit cls = true) (hnames : ∀ n ∈ names, Bundle.fit n = true)
    (hk : (Cond.classLink own ik cls).before args s = true) (hini : (Cond.initialized cls).before args s = true) (hat : ∀ w ∈ vx_at0 own ic cls names, w.before args s = true)
    (hgood : ∀ w ∈ Cond.classLink own ik cls :: Cond.initialized cls :: vx_at0 own ic cls names, vx_ot w = true)
    (hU : vx_Zq Bundle.tN "UNASSIGNED_STACK" Bundle.steD A s s.heap) (hN : vx_Zq Bundle.tN "SUPPRESSED_SENTINEL" Bundle.listD A s s.heap) (hS : va_S A s.heap H locs) (hsize : ls.size = c.maxLocals)
    (d0 : decode cc pc = .ok (.new ik, 3)) (d3 : decode cc (pc + 3) = .ok (.dup, 1)) (d4 : decode cc (pc + 4) = .ok (.invokespecial ic, 3)) (d7 : decode cc (pc + 7) = .ok (.athrow, 1))
    (hout : ∀ x ∈ c.exceptionTable.toList, covers x (pc + 7) = false)
    (hRframes : names.length + 3 < R.frames) (hRlocals : (rest.map fun v => v.category).sum + (13 * (names.length + 1) + 42) ≤ R.locals) (hRcells : cells + 1 ≤ R.cells) (hRslots : slots + 6 ≤ R.slots) (hlocks : meth.locks = false)
    (hx : ∀ t : State, s.vm.Alike t.vm → H.size ≤ t.heap.size → (∀ q : Nat, q < H.size → t.heap[q]? = H[q]?) → XC cls s t)
    (hf : ∀ z ∈ locs, free z.base) (hc : cells + 1 ≤ mc) (hs : slots + 6 ≤ ms) :
    W p l e R s m args below meth c H locs cells slots (vx_MQ below Qc XC args s mc ms free) (F0 m pc ls rest) := by
  intro T hT X
  have htr : e.platform.stackTraces = false := (show e.platform.stackTraces = l.stackTraces by rw [X.admits.platform]).trans hl
  have Y := vx_rebase X (R' := { frames := R.frames, locals := R.locals, cells := 1, slots := 6 }) (Nat.le_refl _) (Nat.le_refl _) hRcells hRslots
  obtain ⟨s', hA⟩ : ∃ z, z = (T.setVm s.vm).setFrames (.invoking m args :: below) := ⟨_, rfl⟩
  rw [← hA] at Y
  have hvm : s'.vm = s.vm := by rw [hA]; rfl
  have hhp : s'.heap = H := by rw [hA]; exact hT
  have hW0 : s.WarmedH s'.vm := by rw [hvm]; exact State.WarmedH.refl s
  have hat' : ∀ w ∈ vx_at0 own ic cls names, w.before args s' = true := fun w hw => vx_ot_at hW0 hvm.symm (hgood w (List.mem_cons_of_mem _ (List.mem_cons_of_mem _ hw))) (hat w hw)
  have hk' : (Cond.classLink own ik cls).before args s' = true := vx_ot_at hW0 hvm.symm (hgood _ List.mem_cons_self) hk
  have hini' : (Cond.initialized cls).before args s' = true := vx_ot_at hW0 hvm.symm (hgood _ (List.mem_cons_of_mem _ List.mem_cons_self)) hini
  have hU' : vx_Zq Bundle.tN "UNASSIGNED_STACK" Bundle.steD A s' s'.heap := by rw [hhp]; exact vx_Zq.moved hW0.alike (hU.kept hS.2.1)
  have hN' : vx_Zq Bundle.tN "SUPPRESSED_SENTINEL" Bundle.listD A s' s'.heap := by rw [hhp]; exact vx_Zq.moved hW0.alike (hN.kept hS.2.1)
  have h : ∀ w ∈ Bundle.ownAtoms0 own ic cls names, w.before args s' = true := vx_own hat' (vx_isRefq hU'.1) (vx_isRefq hN'.1) hU'.2.word hN'.2.word
  have hown' : s'.vm.findClass own = some m.cls := by rw [hvm]; exact hown
  have hins : (Cond.instantiable cls 6).before args s' = true := h _ (by simp [Bundle.ownAtoms0])
  obtain ⟨vm₁, cX, kX, hfX, hkX, -, -, X₁, st1⟩ := Y.newCold hexec (own := own) (C := cls) (index := ik) (n := 6) hown' hk' hins hini'
    (g := F0 m pc ls rest) rfl (by rw [hb]; exact d0) (Nat.le_refl _) (Nat.le_refl _)
  generalize hT1 : (T.setVm vm₁).pushCell { cls := cX, slots := kX.instanceTypes.map defaultValue, vm := .none } = T1 at X₁ st1
  have hcat : (Value.ref T.heap.size).category = 1 := rfl
  have hcellA : T1.heap[T.heap.size]? = some (freshCell cX kX) := by rw [← hT1]; exact State.heap_pushCell_size _ _
  have d3' : decode c.code (pc + 3) = .ok (.dup, 1) := by rw [hb]; exact d3
  obtain ⟨U, hsteps, hrun, hend, hW, hsame, ce, hce, hO⟩ := X₁.ctorThrow0 hexec htr (own := own) (cls := cls) (names := names) (ic := ic) hown' hcls hnames h (fun x hx => nomatch hx) hfX hkX hcellA (by rw [hhp, hT]; exact Nat.le_refl _)
    (g := { method := m, pc := pc + 4, locals := ls, stack := .ref T.heap.size :: .ref T.heap.size :: rest, locked := none }) rfl hsize rfl rfl (rest := rest) rfl
    (by rw [hb]; exact d4) (by rw [hb]; exact d7) hout hRframes (by simp only [List.map_cons, List.sum_cons, hcat]; omega) hlocks
  obtain ⟨f1, f2⟩ := vx_frame hsame
  rw [hhp] at f1 f2
  have hWs : s.WarmedH U.vm := State.WarmedH.trans hW0 hW
  have hcl : s.vm.findClass cls = some ce.cls := by
    have h9 := hO.cls
    rw [hvm] at h9
    exact h9
  have hall : s.sameButNew ({ U with vm := s.vm } : State) locs mc ms := by
    subst hA
    obtain ⟨e1, e2⟩ := hsame
    rw [State.setFrames_setFrames] at e1
    have h2 : (T.setVm s.vm).sameButNew ({ U with vm := s.vm } : State) [] (0 + 1) (0 + 6) := ⟨e1, e2⟩
    have h3 := X.same.trans h2
    rw [List.append_nil] at h3
    exact h3.mono hc hs
  refine ⟨U, ?_, .threw T.heap.size, hrun, hend, Or.inr ⟨T.heap.size, rfl, cls, ce, locs, hx U hWs.alike f1 (fun q hq => f2 q hq (fun z hz => nomatch hz)), hce, hO.vm, hcl, hWs, hall, hf⟩⟩
  refine st1 _ ?_
  show Steps p.tables e below (T1.setTop { method := m, pc := pc + 3, locals := ls, stack := .ref T.heap.size :: rest, locked := none }) _
  jvm_step X₁.here [X₁.here.top, hexec, d3', Value.category]
  exact hsteps
/-- 'throw new E("text")': new; dup; ldc; invokespecial; athrow -/
theorem vx_throwS {cc : ByteArray} {pc : Nat} (hexec : p.tables.exec = Jvm.exec) (hb : c.code = cc) (hl : l.stackTraces = false) {own cls text : String} {names : List String} {ik is ic mc ms sa : Nat} {A : Nat → Prop}
    (hown : s.vm.findClass own = some m.cls) (hcls : Bundle.fit cls = true) (hnames : ∀ n ∈ names, Bundle.fit n = true)
    (hk : (Cond.classLink own ik cls).before args s = true) (hini : (Cond.initialized cls).before args s = true) (hstr : vk_R own is text sa s) (hat : ∀ w ∈ vx_atS own ic cls names, w.before args s = true)
    (hgood : ∀ w ∈ Cond.classLink own ik cls :: Cond.initialized cls :: vx_atS own ic cls names, vx_ot w = true)
    (hU : vx_Zq Bundle.tN "UNASSIGNED_STACK" Bundle.steD A s s.heap) (hN : vx_Zq Bundle.tN "SUPPRESSED_SENTINEL" Bundle.listD A s s.heap) (hS : va_S A s.heap H locs) (hsize : ls.size = c.maxLocals)
    (d0 : decode cc pc = .ok (.new ik, 3)) (d3 : decode cc (pc + 3) = .ok (.dup, 1)) (d4 : decode cc (pc + 4) = .ok (.ldc is, 2)) (d6 : decode cc (pc + 6) = .ok (.invokespecial ic, 3)) (d9 : decode cc (pc + 9) = .ok (.athrow, 1))
    (hout : ∀ x ∈ c.exceptionTable.toList, covers x (pc + 9) = false)
    (hRframes : names.length + 3 < R.frames) (hRlocals : (rest.map fun v => v.category).sum + (13 * (names.length + 1) + 43) ≤ R.locals) (hRcells : cells + 1 ≤ R.cells) (hRslots : slots + 6 ≤ R.slots) (hlocks : meth.locks = false)
    (hx : ∀ t : State, s.vm.Alike t.vm → H.size ≤ t.heap.size → (∀ q : Nat, q < H.size → t.heap[q]? = H[q]?) → XC cls s t)
    (hf : ∀ z ∈ locs, free z.base) (hc : cells + 1 ≤ mc) (hs : slots + 6 ≤ ms) :
    W p l e R s m args below meth c H locs cells slots (vx_MQ below Qc XC args s mc ms free) (F0 m pc ls rest) := by
  intro T hT X
  have htr : e.platform.stackTraces = false := (show e.platform.stackTraces = l.stackTraces by rw [X.admits.platform]).trans hl
  have Y := vx_rebase X (R' := { frames := R.frames, locals := R.locals, cells := 1, slots := 6 }) (Nat.le_refl _) (Nat.le_refl _) hRcells hRslots
  obtain ⟨s', hA⟩ : ∃ z, z = (T.setVm s.vm).setFrames (.invoking m args :: below) := ⟨_, rfl⟩
  rw [← hA] at Y
  have hvm : s'.vm = s.vm := by rw [hA]; rfl
  have hhp : s'.heap = H := by rw [hA]; exact hT
  have hW0 : s.WarmedH s'.vm := by rw [hvm]; exact State.WarmedH.refl s
  have hat' : ∀ w ∈ vx_atS own ic cls names, w.before args s' = true := fun w hw => vx_ot_at hW0 hvm.symm (hgood w (List.mem_cons_of_mem _ (List.mem_cons_of_mem _ hw))) (hat w hw)
  have hk' : (Cond.classLink own ik cls).before args s' = true := vx_ot_at hW0 hvm.symm (hgood _ List.mem_cons_self) hk
  have hini' : (Cond.initialized cls).before args s' = true := vx_ot_at hW0 hvm.symm (hgood _ (List.mem_cons_of_mem _ List.mem_cons_self)) hini
  have hU' : vx_Zq Bundle.tN "UNASSIGNED_STACK" Bundle.steD A s' s'.heap := by rw [hhp]; exact vx_Zq.moved hW0.alike (hU.kept hS.2.1)
  have hN' : vx_Zq Bundle.tN "SUPPRESSED_SENTINEL" Bundle.listD A s' s'.heap := by rw [hhp]; exact vx_Zq.moved hW0.alike (hN.kept hS.2.1)
  have h : ∀ w ∈ Bundle.ownAtoms own ic cls names, w.before args s' = true := vx_own hat' (vx_isRefq hU'.1) (vx_isRefq hN'.1) hU'.2.word hN'.2.word
  have hown' : s'.vm.findClass own = some m.cls := by rw [hvm]; exact hown
  have hins : (Cond.instantiable cls 6).before args s' = true := h _ (by simp [Bundle.ownAtoms])
  obtain ⟨vm₁, cX, kX, hfX, hkX, -, -, X₁, st1⟩ := Y.newCold hexec (own := own) (C := cls) (index := ik) (n := 6) hown' hk' hins hini'
    (g := F0 m pc ls rest) rfl (by rw [hb]; exact d0) (Nat.le_refl _) (Nat.le_refl _)
  generalize hT1 : (T.setVm vm₁).pushCell { cls := cX, slots := kX.instanceTypes.map defaultValue, vm := .none } = T1 at X₁ st1
  have hcat : (Value.ref T.heap.size).category = 1 := rfl
  have hcellA : T1.heap[T.heap.size]? = some (freshCell cX kX) := by rw [← hT1]; exact State.heap_pushCell_size _ _
  have d3' : decode c.code (pc + 3) = .ok (.dup, 1) := by rw [hb]; exact d3
  have d4' : decode c.code (pc + 4) = .ok (.ldc is, 2) := by rw [hb]; exact d4
  have hstr' : vk_R own is text sa s' := vk_R.warm hW0 hstr
  obtain ⟨U, hsteps, hrun, hend, hW, hsame, ce, hce, hO⟩ := X₁.ctorThrowS hexec htr (own := own) (cls := cls) (names := names) (ic := ic) hown' hcls hnames h (fun x hx => nomatch hx) hfX hkX hcellA (by rw [hhp, hT]; exact Nat.le_refl _) (msg := .ref sa) rfl
    (g := { method := m, pc := pc + 6, locals := ls, stack := .ref sa :: .ref T.heap.size :: .ref T.heap.size :: rest, locked := none }) rfl hsize rfl rfl (rest := rest) rfl
    (by rw [hb]; exact d6) (by rw [hb]; exact d9) hout hRframes (by simp only [List.map_cons, List.sum_cons, hcat]; omega) hlocks
  obtain ⟨f1, f2⟩ := vx_frame hsame
  rw [hhp] at f1 f2
  have hWs : s.WarmedH U.vm := State.WarmedH.trans hW0 hW
  have hcl : s.vm.findClass cls = some ce.cls := by
    have h9 := hO.cls
    rw [hvm] at h9
    exact h9
  have hall : s.sameButNew ({ U with vm := s.vm } : State) locs mc ms := by
    subst hA
    obtain ⟨e1, e2⟩ := hsame
    rw [State.setFrames_setFrames] at e1
    have h2 : (T.setVm s.vm).sameButNew ({ U with vm := s.vm } : State) [] (0 + 1) (0 + 6) := ⟨e1, e2⟩
    have h3 := X.same.trans h2
    rw [List.append_nil] at h3
    exact h3.mono hc hs
  refine ⟨U, ?_, .threw T.heap.size, hrun, hend, Or.inr ⟨T.heap.size, rfl, cls, ce, locs, hx U hWs.alike f1 (fun q hq => f2 q hq (fun z hz => nomatch hz)), hce, hO.vm, hcl, hWs, hall, hf⟩⟩
  refine st1 _ ?_
  show Steps p.tables e below (T1.setTop { method := m, pc := pc + 3, locals := ls, stack := .ref T.heap.size :: rest, locked := none }) _
  jvm_step X₁.here [X₁.here.top, hexec, d3', Value.category]
  exact X₁.ldcString hexec (own := own) (text := text) (index := is) (a := sa) hown' hstr'.1 hstr'.2
    (g := { method := m, pc := pc + 4, locals := ls, stack := .ref T.heap.size :: .ref T.heap.size :: rest, locked := none }) rfl d4' _ hsteps
/-- 'throw new E("text")', the text by a wide index -/
theorem vx_throwSW {cc : ByteArray} {pc : Nat} (hexec : p.tables.exec = Jvm.exec) (hb : c.code = cc) (hl : l.stackTraces = false) {own cls text : String} {names : List String} {ik is ic mc ms sa : Nat} {A : Nat → Prop}
    (hown : s.vm.findClass own = some m.cls) (hcls : Bundle.fit cls = true) (hnames : ∀ n ∈ names, Bundle.fit n = true)
    (hk : (Cond.classLink own ik cls).before args s = true) (hini : (Cond.initialized cls).before args s = true) (hstr : vk_R own is text sa s) (hat : ∀ w ∈ vx_atS own ic cls names, w.before args s = true)
    (hgood : ∀ w ∈ Cond.classLink own ik cls :: Cond.initialized cls :: vx_atS own ic cls names, vx_ot w = true)
    (hU : vx_Zq Bundle.tN "UNASSIGNED_STACK" Bundle.steD A s s.heap) (hN : vx_Zq Bundle.tN "SUPPRESSED_SENTINEL" Bundle.listD A s s.heap) (hS : va_S A s.heap H locs) (hsize : ls.size = c.maxLocals)
    (d0 : decode cc pc = .ok (.new ik, 3)) (d3 : decode cc (pc + 3) = .ok (.dup, 1)) (d4 : decode cc (pc + 4) = .ok (.ldc_w is, 3)) (d7 : decode cc (pc + 7) = .ok (.invokespecial ic, 3)) (d10 : decode cc (pc + 10) = .ok (.athrow, 1))
    (hout : ∀ x ∈ c.exceptionTable.toList, covers x (pc + 10) = false)
    (hRframes : names.length + 3 < R.frames) (hRlocals : (rest.map fun v => v.category).sum + (13 * (names.length + 1) + 43) ≤ R.locals) (hRcells : cells + 1 ≤ R.cells) (hRslots : slots + 6 ≤ R.slots) (hlocks : meth.locks = false)
    (hx : ∀ t : State, s.vm.Alike t.vm → H.size ≤ t.heap.size → (∀ q : Nat, q < H.size → t.heap[q]? = H[q]?) → XC cls s t)
    (hf : ∀ z ∈ locs, free z.base) (hc : cells + 1 ≤ mc) (hs : slots + 6 ≤ ms) :
    W p l e R s m args below meth c H locs cells slots (vx_MQ below Qc XC args s mc ms free) (F0 m pc ls rest) := by
  intro T hT X
  have htr : e.platform.stackTraces = false := (show e.platform.stackTraces = l.stackTraces by rw [X.admits.platform]).trans hl
  have Y := vx_rebase X (R' := { frames := R.frames, locals := R.locals, cells := 1, slots := 6 }) (Nat.le_refl _) (Nat.le_refl _) hRcells hRslots
  obtain ⟨s', hA⟩ : ∃ z, z = (T.setVm s.vm).setFrames (.invoking m args :: below) := ⟨_, rfl⟩
  rw [← hA] at Y
  have hvm : s'.vm = s.vm := by rw [hA]; rfl
  have hhp : s'.heap = H := by rw [hA]; exact hT
  have hW0 : s.WarmedH s'.vm := by rw [hvm]; exact State.WarmedH.refl s
  have hat' : ∀ w ∈ vx_atS own ic cls names, w.before args s' = true := fun w hw => vx_ot_at hW0 hvm.symm (hgood w (List.mem_cons_of_mem _ (List.mem_cons_of_mem _ hw))) (hat w hw)
  have hk' : (Cond.classLink own ik cls).before args s' = true := vx_ot_at hW0 hvm.symm (hgood _ List.mem_cons_self) hk
  have hini' : (Cond.initialized cls).before args s' = true := vx_ot_at hW0 hvm.symm (hgood _ (List.mem_cons_of_mem _ List.mem_cons_self)) hini
  have hU' : vx_Zq Bundle.tN "UNASSIGNED_STACK" Bundle.steD A s' s'.heap := by rw [hhp]; exact vx_Zq.moved hW0.alike (hU.kept hS.2.1)
  have hN' : vx_Zq Bundle.tN "SUPPRESSED_SENTINEL" Bundle.listD A s' s'.heap := by rw [hhp]; exact vx_Zq.moved hW0.alike (hN.kept hS.2.1)
  have h : ∀ w ∈ Bundle.ownAtoms own ic cls names, w.before args s' = true := vx_own hat' (vx_isRefq hU'.1) (vx_isRefq hN'.1) hU'.2.word hN'.2.word
  have hown' : s'.vm.findClass own = some m.cls := by rw [hvm]; exact hown
  have hins : (Cond.instantiable cls 6).before args s' = true := h _ (by simp [Bundle.ownAtoms])
  obtain ⟨vm₁, cX, kX, hfX, hkX, -, -, X₁, st1⟩ := Y.newCold hexec (own := own) (C := cls) (index := ik) (n := 6) hown' hk' hins hini'
    (g := F0 m pc ls rest) rfl (by rw [hb]; exact d0) (Nat.le_refl _) (Nat.le_refl _)
  generalize hT1 : (T.setVm vm₁).pushCell { cls := cX, slots := kX.instanceTypes.map defaultValue, vm := .none } = T1 at X₁ st1
  have hcat : (Value.ref T.heap.size).category = 1 := rfl
  have hcellA : T1.heap[T.heap.size]? = some (freshCell cX kX) := by rw [← hT1]; exact State.heap_pushCell_size _ _
  have d3' : decode c.code (pc + 3) = .ok (.dup, 1) := by rw [hb]; exact d3
  have d4' : decode c.code (pc + 4) = .ok (.ldc_w is, 3) := by rw [hb]; exact d4
  have hstr' : vk_R own is text sa s' := vk_R.warm hW0 hstr
  obtain ⟨U, hsteps, hrun, hend, hW, hsame, ce, hce, hO⟩ := X₁.ctorThrowS hexec htr (own := own) (cls := cls) (names := names) (ic := ic) hown' hcls hnames h (fun x hx => nomatch hx) hfX hkX hcellA (by rw [hhp, hT]; exact Nat.le_refl _) (msg := .ref sa) rfl
    (g := { method := m, pc := pc + 7, locals := ls, stack := .ref sa :: .ref T.heap.size :: .ref T.heap.size :: rest, locked := none }) rfl hsize rfl rfl (rest := rest) rfl
    (by rw [hb]; exact d7) (by rw [hb]; exact d10) hout hRframes (by simp only [List.map_cons, List.sum_cons, hcat]; omega) hlocks
  obtain ⟨f1, f2⟩ := vx_frame hsame
  rw [hhp] at f1 f2
  have hWs : s.WarmedH U.vm := State.WarmedH.trans hW0 hW
  have hcl : s.vm.findClass cls = some ce.cls := by
    have h9 := hO.cls
    rw [hvm] at h9
    exact h9
  have hall : s.sameButNew ({ U with vm := s.vm } : State) locs mc ms := by
    subst hA
    obtain ⟨e1, e2⟩ := hsame
    rw [State.setFrames_setFrames] at e1
    have h2 : (T.setVm s.vm).sameButNew ({ U with vm := s.vm } : State) [] (0 + 1) (0 + 6) := ⟨e1, e2⟩
    have h3 := X.same.trans h2
    rw [List.append_nil] at h3
    exact h3.mono hc hs
  refine ⟨U, ?_, .threw T.heap.size, hrun, hend, Or.inr ⟨T.heap.size, rfl, cls, ce, locs, hx U hWs.alike f1 (fun q hq => f2 q hq (fun z hz => nomatch hz)), hce, hO.vm, hcl, hWs, hall, hf⟩⟩
  refine st1 _ ?_
  show Steps p.tables e below (T1.setTop { method := m, pc := pc + 3, locals := ls, stack := .ref T.heap.size :: rest, locked := none }) _
  jvm_step X₁.here [X₁.here.top, hexec, d3', Value.category]
  exact X₁.ldcStringW hexec (own := own) (text := text) (index := is) (a := sa) hown' hstr'.1 hstr'.2
    (g := { method := m, pc := pc + 4, locals := ls, stack := .ref T.heap.size :: .ref T.heap.size :: rest, locked := none }) rfl d4' _ hsteps
end Ends
section Bodies
variable {l : Launch}
theorem vx_ofW {y : MethodName} {ws ws' : List Cond} {rm : Room} {Pc : Array Value → State → Prop} {Qc : Array Value → State → Outcome → State → Prop} {XC : String → State → State → Prop} {mc ms : Nat} {free : Addr → Prop} {cc : ByteArray} {maxL : Nat} {ret : Option FieldType}
    (hy : plainName y.cls = true) (hw : ws = Cond.code y cc maxL ret :: ws')
    (body : ∀ p e s m args below meth c s₁, BodyLoose p l y (headSpec ws rm) cc maxL ret e s m args below meth c s₁ → c.maxLocals = maxL → (∀ x ∈ c.exceptionTable.toList, False) → Pc args s →
      W p l e (headSpec ws rm).room s m args below meth c s.heap [] 0 0 (vx_MQ below Qc XC args s mc ms free) (entryFrame m args maxL)) : vx_Met l y ws rm Pc Qc XC mc ms free := by
  refine MetFree.of_bodyS (code := cc) (maxLocals := maxL) (ret := ret) hy ?_ ?_
  · intro args s m h hn
    obtain ⟨meth, c, h1, h2, h3, h4, h5, h6, -, -⟩ := Cond.code_spec hn (atoms_spec (ws := ws) h _ (by rw [hw]; exact List.mem_cons_self))
    exact ⟨meth, c, h1, h2, h3, h4, h5, h6⟩
  · intro p e s m args below meth c s₁ B hml hP _
    have hh0 : s₁.heap = s.heap := by rw [B.state]; rfl
    have ht : ∀ x ∈ c.exceptionTable.toList, False := by
      obtain ⟨meth9, c9, h1, h2, -, -, -, -, h7, -⟩ := Cond.code_spec B.named (atoms_spec (ws := ws) B.pre _ (by rw [hw]; exact List.mem_cons_self))
      cases Option.some.inj (h1.symm.trans B.method)
      cases Option.some.inj (h2.symm.trans (Stand.of_body B).code)
      intro x hx
      rw [Array.isEmpty_iff.mp h7] at hx
      cases hx
    obtain ⟨t, a1, o, b1, b2, b3⟩ := body p e s m args below meth c s₁ B hml ht hP s₁ hh0 (Stand.of_body B)
    exact ⟨t, o, a1, b1, b2, b3⟩
/-- the table of a body with handlers -/
theorem vx_table {p : Program} {x y : MethodName} {S : Spec} {cc bytes : ByteArray} {maxL maxL' : Nat} {ret ret' : Option FieldType} {e : Env} {s s₁ : State} {m : MethodId} {args : Array Value} {below : List Frame} {meth : Method} {c : Code} {hh : List (Nat × Nat × Nat × Nat)}
    (B : BodyLoose p l y S cc maxL ret e s m args below meth c s₁) (h : (Cond.codeWith y bytes maxL' ret' hh).before args s = true) : c.exceptionTable.toList = tableOf hh := by
  obtain ⟨m9, meth9, c9, hn9, h1, h2, -, -, h6, -⟩ := Cond.codeWith_spec h
  cases Option.some.inj (hn9.symm.trans B.named)
  cases Option.some.inj (h1.symm.trans B.method)
  cases Option.some.inj (h2.symm.trans (Stand.of_body B).code)
  rw [← h6, table_eq]
end Bodies
end VXA
/-! ===== END ===== -/
/-! ===== BEGIN a static call of a method with an exception table ===== -/
section VXS
variable {p : Program} {l : Launch} {e : Env} {R : Room} {s : State} {m : MethodId} {args : Array Value} {below : List Frame} {meth : Method} {c : Code} {T : State} {H : Heap} {locs : List Loc} {cells slots : Nat}
abbrev vx_CSW (R : Room) (s : State) (args : Array Value) (own : String) (index : Nat) (y : MethodName) (bytes : ByteArray) (maxL : Nat) (ret : Option FieldType) (hh : List (Nat × Nat × Nat × Nat)) (ws : List Cond) (rm : Room) (mc ms n : Nat) : Prop :=
  (rm.cells = mc ∧ rm.slots = ms ∧ rm.frames + 1 ≤ R.frames ∧ 8 + (maxL + 11) + rm.locals ≤ R.locals ∧ (∀ w ∈ ws, ∀ (a' : Array Value) (U : State), s.WarmedH U.vm → w.before a' U = true) ∧ Cond.codeWith y bytes maxL ret hh ∈ ws) ∧
  (Cond.codeWith y bytes maxL ret hh).before args s = true ∧ (Cond.initialized y.cls).before args s = true ∧ (y.cls ≠ "java/lang/invoke/MethodHandle" ∧ y.cls ≠ "java/lang/invoke/VarHandle") ∧
  (∀ sig, parseMethodDescriptor y.desc = some sig → n = sig.parameters.length) ∧ (Cond.methodLink own index y).before args s = true ∧ (Cond.static y).before args s = true
theorem vx_cwSW {own : String} {index maxL mc ms : Nat} {y : MethodName} {bytes : ByteArray} {ret : Option FieldType} {hh : List (Nat × Nat × Nat × Nat)} {Ts ws ws' : List Cond} {rm : Room} (n : Nat) (ht : ∀ w ∈ Ts, w.before args s = true) (hT : GoodIn Ts (va_wsS own index y ws)) (hw : ws = Cond.codeWith y bytes maxL ret hh :: ws') (hrc : rm.cells = mc) (hrs : rm.slots = ms)
    (hd : y.cls ≠ "java/lang/invoke/MethodHandle" ∧ y.cls ≠ "java/lang/invoke/VarHandle" ∧ (parseMethodDescriptor y.desc).map (fun d => d.parameters.length) = some n) (hR : rm.frames + 1 ≤ R.frames ∧ 8 + (maxL + 11) + rm.locals ≤ R.locals) :
    vx_CSW R s args own index y bytes maxL ret hh ws rm mc ms n := by
  have ok : ∀ w ∈ va_wsS own index y ws, w.before args s = true := fun w h => ht w (hT w h).1
  have hG : GoodIn Ts ws := fun w h => hT w (by unfold va_wsS; exact List.mem_append_right _ h)
  have hc : Cond.codeWith y bytes maxL ret hh ∈ ws := by rw [hw]; exact List.mem_cons_self
  refine ⟨⟨hrc, hrs, hR.1, hR.2, pay_in ht hG, hc⟩, ht _ (hG _ hc).1, ok _ (by simp [va_wsS]), ⟨hd.1, hd.2.1⟩, fun sig h => ?_, ok _ (by simp [va_wsS]), ok _ (by simp [va_wsS])⟩
  have h2 := hd.2.2
  rw [h] at h2
  exact (Option.some.inj h2).symm
theorem vx_callSW (X : Stand p l e R s m args below meth c T locs cells slots) (hexec : p.tables.exec = Jvm.exec) {own : String} {index : Nat} {y : MethodName} {bytes : ByteArray} {maxL : Nat} {ret : Option FieldType} {hh : List (Nat × Nat × Nat × Nat)}
    (hown : s.vm.findClass own = some m.cls) (hlink : (Cond.methodLink own index y).before args s = true) (hstat : (Cond.static y).before args s = true) (hinit : (Cond.initialized y.cls).before args s = true)
    (hcode : (Cond.codeWith y bytes maxL ret hh).before args s = true) (hy : y.cls ≠ "java/lang/invoke/MethodHandle" ∧ y.cls ≠ "java/lang/invoke/VarHandle")
    {W9 : Nat} {Pre : Pt → Array Value → Prop} {Post : Pt → Array Value → Option Value → Pt → Prop} (hK : Back l R p e below s args y 3 W9 Pre Post)
    {g : JFrame} (hg : g.method = m) (hsize : g.locals.size = c.maxLocals) {argsL rest : List Value} (hlen : ∀ sig, parseMethodDescriptor y.desc = some sig → argsL.length = sig.parameters.length)
    (hstack : g.stack = argsL.reverse ++ rest) (hW : 2 * g.monitorRoom + (rest.map fun v => v.category).sum ≤ W9) (hdg : decode c.code g.pc = .ok (.invokestatic index, 3))
    (hpre : ∀ vm₁, s.WarmedH vm₁ → Pre ⟨T.setVm vm₁, locs, cells, slots⟩ argsL.toArray) :
    ∃ (v : Option Value) (vm₁ : Vm) (B : Pt), s.WarmedH vm₁ ∧ Stand p l e R s m args below meth c B.U B.locs B.cells B.slots ∧ Post ⟨T.setVm vm₁, locs, cells, slots⟩ argsL.toArray v B ∧
      ∀ target, Steps p.tables e below (B.U.setTop { g with pc := g.pc + 3, stack := v.toList ++ rest }) target → Steps p.tables e below (T.setTop g) target := by
  obtain ⟨mk, methM, cM, hnamed, hmethM, -, -, -, -, -, -, hsigM⟩ := Cond.codeWith_spec hcode
  have hstatic : methM.isStatic = true := Cond.static_spec hnamed hmethM hstat
  obtain ⟨kP, hkP, -⟩ := className_of_methodNamed hnamed
  have hinitP : kP.init = .initialized := Cond.initialized_spec (findClass_of_methodNamed hnamed) hkP hinit
  obtain ⟨vm₁, X₁, hstep₁⟩ := X.invokestatic hexec hown hlink hnamed hmethM hstatic hkP hinitP hy (g := g) hg (argsL := argsL) (rest := rest) (hlen _ hsigM) hstack hdg
  obtain ⟨v, B, X', hpost, hsteps⟩ := hK m meth c ⟨T.setVm vm₁, locs, cells, slots⟩ { g with stack := rest } (.invokestatic index) mk argsL.toArray X₁ hg hsize hdg hW (X₁.named hnamed) (hpre vm₁ X₁.warmed)
  exact ⟨v, vm₁, B, X₁.warmed, X', hpost, fun target h => hstep₁ _ fun acts => by rw [doInvoke_state]; exact hsteps.trans h⟩
theorem vx_runSW {y : MethodName} {bytes cc : ByteArray} {maxL nL mc ms n index : Nat} {ret : Option FieldType} {hh : List (Nat × Nat × Nat × Nat)} {ws : List Cond} {rm : Room} {Pc : Array Value → State → Prop} {Qc : Array Value → State → Outcome → State → Prop} {free : Addr → Prop} {Ts : List Cond} {own : String} {As rest : List Value} {g : JFrame}
    (S : CallFix p m c cc nL s args Ts own) (hM : Met l y ws rm Pc Qc mc ms free) (cw : vx_CSW R s args own index y bytes maxL ret hh ws rm mc ms n) (hp : PreS s H Pc As)
    (hg : g.method = m) (hn : As.length = n) (hsize : g.locals.size = nL) (hstack : g.stack = As.reverse ++ rest) (hW : 2 * g.monitorRoom + (rest.map fun v => v.category).sum ≤ 8) (hdg : decode cc g.pc = .ok (.invokestatic index, 3)) (hf : cells + mc ≤ R.cells ∧ slots + ms ≤ R.slots) :
    va_Run p l e R s m args below meth c H locs cells slots mc ms g rest (Qc As.toArray) (free) := by
  obtain ⟨⟨hrc, hrs, hfr, hlo, hws, hcw⟩, hcode, hini, hy, hlen, hl, hstt⟩ := cw
  have hK : Back l R p e below s args y 3 8 (PreOf R mc ms Pc) (PostOf Qc mc ms free) := va_backW (hh := hh) (bytes := bytes) (maxL := maxL) (ret := ret) hM hp.1 hrc hrs hfr hlo hws hcw (fun a' U hW => word_at hW (Or.inl (by first | rfl | simp [Cond.onTables, Cond.keeps, Cond.steady])) hini)
  obtain ⟨hx, hb, hml, ho, -⟩ := S
  intro T hT X
  obtain ⟨v, vm₁, ⟨U', l2, c2, s2⟩, hW₁, X', ⟨g', mk, t, L, e1, e2, hq, h1, hL, h2, h3⟩, st⟩ := vx_callSW X hx (hh := hh) (bytes := bytes) (maxL := maxL) (ret := ret) ho hl hstt hini hcode hy hK hg (hsize.trans hml.symm) (argsL := As) (rest := rest) (fun sig h => hn.trans (hlen sig h)) hstack hW (by rw [hb]; exact hdg)
    (fun vm₁ hW₁ => ⟨hf.1, hf.2, hp.2 (T.setVm vm₁) hT hW₁⟩)
  dsimp only [Pt.U, Pt.locs, Pt.cells, Pt.slots] at X' e1 e2 h1 h2 h3 st
  subst h1; subst h2; subst h3
  exact ⟨v, (T.setVm vm₁).calling g' mk As.toArray, t, U', L, hT, X', hL, e1, e2, hq, st⟩
/-- not caught here, past rows that name other classes: it goes on to the caller -/
theorem vx_outP {p : Program} {l : Launch} {e : Env} {R : Room} {s : State} {m : MethodId} {args : Array Value} {below : List Frame} {meth : Method} {c : Code} {H : Heap} {locs : List Loc} {cells slots : Nat} {free : Addr → Prop} {ls : Array Slot} {rest : List Value} {Qc : Array Value → State → Outcome → State → Prop} {XC : String → State → State → Prop}
    {pc : Nat} {own E : String} {ce : Cell} {q : Addr} {mc ms : Nat} (hown : s.vm.findClass own = some m.cls) (hlocks : meth.locks = false)
    (hpass : ∀ z ∈ c.exceptionTable.toList, covers z pc = false ∨ (z.catchType ≠ 0 ∧ ∃ nm : String, (Cond.classLink own z.catchType nm).before args s = true ∧ va_Nc E nm s)) (hcell : H[q]? = some ce) (hv : ce.vm = .none) (hcl : s.vm.findClass E = some ce.cls)
    (hx : ∀ t : State, t.heap = H → s.vm.Alike t.vm → XC E s t) (hf : ∀ z ∈ locs, free z.base) (hc : cells ≤ mc) (hs : slots ≤ ms) :
    vx_W p l e R s m args below meth c H locs cells slots (vx_MQ below Qc XC args s mc ms free) (F0 m pc ls rest) q := by
  intro T hT X
  have hpl : e.platform.magicAccessors = ({} : Platform).magicAccessors := by rw [X.admits.platform]
  obtain ⟨vm', hW', X', st⟩ := X.outThrough hlocks q (g := F0 m pc ls rest) rfl rfl rfl (cell := ce) (by rw [hT]; exact hcell) (by rw [hv]; rfl)
    (by obtain ⟨k9, h9, -⟩ := Vm.findClass_spec hcl; exact ⟨k9, h9⟩) (fun z hz => by
      rcases hpass z hz with h | ⟨hz0, nm, hl1, hn1⟩
      · exact Or.inl h
      · obtain ⟨c6, hc6, hcl6⟩ := Cond.classLink_spec hown hl1 e.platform hpl
        obtain ⟨a8, b8, h1, h2, h3⟩ := hn1
        cases Option.some.inj (h1.symm.trans hcl)
        cases Option.some.inj (h2.symm.trans hc6)
        exact Or.inr ⟨hz0, _, hcl6, h3⟩)
  obtain ⟨g₀, hfr⟩ := X'.frames_eq
  have hcell9 : ((T.setVm vm').setFrames (.throwing q :: below)).heap[q]? = some ce := by
    show T.heap[q]? = some ce
    rw [hT]; exact hcell
  have hend : Ended ((T.setVm vm').setFrames (.throwing q :: below)) below (.threw q) := State.frames_setFrames _ (State.cur_lt_of_frames hfr)
  refine ⟨(T.setVm vm').setFrames (.throwing q :: below), ?_, .threw q, X'.here.running, hend, Or.inr ⟨q, rfl, E, ce, locs, hx _ hT (X'.ends _).1.alike, hcell9, hv, hcl, (X'.ends _).1, (X'.ends _).2.mono hc hs, hf⟩⟩
  rw [X.pushThrowing_eq]
  exact st
/-- a thing of a world lies in the heap -/
theorem vx_lt {D : va_G} {cl : List vw_C} {ws : va_W} {H1 : Heap} (h : va_P D cl ws H1) {k : Nat} {q : Nat × va_E} (hk : ws[k]? = some q) : q.1 < H1.size := (h k q hk).lt
end VXS
/-! ===== END ===== -/
/-! ===== BEGIN methods with a table of their own: called by a name, returning or throwing ===== -/
section VXH
/-! vx_backW, vx_callVX, vx_callSX, vx_callVW, vx_runVW, vx_runVX, vx_runSX, vx_ofWH follow the same proofs as their sisters above (Free/Laws.lean, Shelf42/LK1.lean); vx_outP calls Shelf42/NT130.lean (outThrough). -/
section
variable {l : Launch} {R : Room} {p : Program} {e : Env} {below : List Frame} {s : State} {sargs : Array Value} {y : MethodName} {len W9 : Nat}
theorem vx_backW {ws : List Cond} {rm : Room} {Pc : Array Value → State → Prop} {Qc : Array Value → State → Outcome → State → Prop} {XC : String → State → State → Prop} {mc ms : Nat} {free : Addr → Prop} {bytes : ByteArray} {maxL : Nat} {ret : Option FieldType} {hh : List (Nat × Nat × Nat × Nat)}
    (hM : vx_Met l y ws rm Pc Qc XC mc ms free) (hblind : FrameBlind Pc) (hrc : rm.cells = mc) (hrs : rm.slots = ms)
    (hframes : rm.frames + 1 ≤ R.frames) (hlocals : W9 + (maxL + 11) + rm.locals ≤ R.locals)
    (hws : ∀ w ∈ ws, ∀ a' U, s.WarmedH U.vm → w.before a' U = true) (hcode : Cond.codeWith y bytes maxL ret hh ∈ ws) (hinit : ∀ a' U, s.WarmedH U.vm → (Cond.initialized y.cls).before a' U = true) :
    vx_Back l R p e below s sargs y len W9 (PreOf R mc ms Pc) (PostOf Qc mc ms free) (vx_Post XC mc ms free) := by
  intro m meth c A g ig mk a X hg hsize hdg hW hn hp
  have h1 : (headSpec ws rm).pre.before a A.U = true := atoms_intro fun w hw => hws w hw _ _ X.warmed
  have h2 : (Cond.codeWith y bytes maxL ret hh).before a A.U = true := hws _ hcode _ _ X.warmed
  have h3 : (Cond.initialized y.cls).before a A.U = true := hinit _ _ X.warmed
  have h4 : A.cells + (headSpec ws rm).room.cells ≤ R.cells := by rw [show (headSpec ws rm).room.cells = mc from hrc]; exact hp.1
  have h5 : A.slots + (headSpec ws rm).room.slots ≤ R.slots := by rw [show (headSpec ws rm).room.slots = ms from hrs]; exact hp.2.1
  have hPc : Pc a (A.U.calling g mk a) := hblind _ _ _ _ hp.2.2
  obtain ⟨U, Ls, c0, s0⟩ := A
  dsimp only [Pt.U, Pt.locs, Pt.cells, Pt.slots] at h1 h2 h3 h4 h5 X hn hPc ⊢
  obtain ⟨m9, methY, cY, hn9, hmY, hcY, -, hlY, -⟩ := Cond.codeWith_spec h2
  cases Option.some.inj (hn9.symm.trans hn)
  obtain ⟨kY, hkY, -⟩ := className_of_methodNamed hn
  have hinitY : kY.init = .initialized := Cond.initialized_spec (findClass_of_methodNamed hn) hkY h3
  have h : At U g.method c below := by rw [hg]; exact X.here
  have hlocals9 : W9 + (maxL + 11) + (headSpec ws rm).room.locals ≤ R.locals := hlocals
  have happ : (headSpec ws rm).appliesLoose y e.platform (U.calling g mk a) = true :=
    Spec.appliesLoose_calling (g := g) h hdg hn hkY hinitY
      (X.room_calling (g := g) (R' := (headSpec ws rm).room) hsize hmY hcY hframes (by rw [hlY]; omega) h4 h5) h1
  obtain ⟨mid, hmid⟩ := h.above
  have hfr : (U.setTop g).frames = (.java g :: mid) ++ below := by rw [State.frames_setTop' g h.top, hmid]; rfl
  obtain ⟨o, s₂, hsteps, -, hend, hq⟩ := Steps.callFree hM p X.admits X.cas X.clock (acts := []) hfr happ hPc trivial
  have hq' : vx_Q Qc XC mc ms free a (U.calling g mk a) o s₂ := hq
  rw [State.frames_setTop' g h.top] at hend
  obtain ⟨g₀, hg0⟩ := Option.isSome_iff_exists.mp h.top
  obtain ⟨r, hr⟩ := State.topJava?_eq_some.mp hg0
  have hr' : (({ U with heap := s₂.heap, slotsUsed := s₂.slotsUsed } : State).setVm s₂.vm).frames = .java g₀ :: r := hr
  rcases hq' with ⟨hqc, L, hfe, hL⟩ | ⟨q, rfl, E, ce, L, hx, hce, hcv, hcl, hW₂, hsm, hL⟩
  · obtain ⟨⟨v, rfl⟩, hW₂, e2, q2, q3, q4, q5, q6⟩ := id hfe
    have e3 : s₂ = ({ (U.calling g mk a).setFrames s₂.frames with heap := s₂.heap, slotsUsed := s₂.slotsUsed } : State).setVm s₂.vm := by
      have : s₂ = ({ s₂ with vm := (U.calling g mk a).vm } : State).setVm s₂.vm := rfl
      rw [e2] at this
      exact this
    obtain ⟨c₂, i₂, len₂, hc₂, hd₂, hf₂⟩ := hend
    have hW' : U.WarmedH s₂.vm := hW₂
    have hcc : c₂ = c := by
      have h1 : s₂.code? g.method = U.code? g.method := by
        rw [State.code?_eq, State.code?_eq, hW'.alike.method?]
      exact Option.some.inj (hc₂.symm.trans (h1.trans h.code))
    subst hcc
    have hlen : len₂ = len := by rw [hdg] at hd₂; cases hd₂; rfl
    subst hlen
    have hs₂ : s₂ = (({ U with heap := s₂.heap, slotsUsed := s₂.slotsUsed } : State).setVm s₂.vm).setTop { g with pc := g.pc + len₂, stack := v.toList ++ g.stack } := by
      refine e3.trans ?_
      rw [hf₂, State.calling_eq h.top, State.setFrames_setFrames, State.setTop_of_frames _ hr', hr]
      rfl
    have hsame : U.sameButNew ({ U with heap := s₂.heap, slotsUsed := s₂.slotsUsed } : State) L mc ms := by
      refine ⟨?_, q2, q3, q4, q5, q6⟩
      obtain ⟨t, ht, -⟩ := State.frames_cons hr
      show ({ U with heap := s₂.heap, slotsUsed := s₂.slotsUsed } : State) = { U.setFrames U.frames with heap := s₂.heap, slotsUsed := s₂.slotsUsed }
      rw [State.setFrames_self ht]
    subst hg
    refine Or.inl ⟨v, ⟨(({ U with heap := s₂.heap, slotsUsed := s₂.slotsUsed } : State).setVm s₂.vm), Ls ++ L, c0 + mc, s0 + ms⟩,
      ⟨X.admits, X.cas, X.clock, X.frames, X.room, X.hears, X.method, X.code, (X.here.setHeapUsed s₂.heap s₂.slotsUsed).setVm hW'.alike, X.tail, State.WarmedH.trans X.warmed hW', X.limits, X.bytes, X.same.trans (hsame.setVm s.vm)⟩,
      ⟨g, mk, s₂, L, rfl, rfl, hqc, rfl, hL, rfl, rfl⟩, ?_⟩
    show Steps p.tables e below _ ((({ U with heap := s₂.heap, slotsUsed := s₂.slotsUsed } : State).setVm s₂.vm).setTop { g with pc := g.pc + len₂, stack := v.toList ++ g.stack })
    rw [← hs₂]
    exact hsteps
  · obtain ⟨e2, q2, q3, q4, q5, q6⟩ := id hsm
    have e3 : s₂ = ({ (U.calling g mk a).setFrames s₂.frames with heap := s₂.heap, slotsUsed := s₂.slotsUsed } : State).setVm s₂.vm := by
      have : s₂ = ({ s₂ with vm := (U.calling g mk a).vm } : State).setVm s₂.vm := rfl
      rw [e2] at this
      exact this
    have hf₂ : s₂.frames = .throwing q :: .java g :: U.frames.tail := hend
    have hW' : U.WarmedH s₂.vm := hW₂
    have hs₂ : s₂ = ((({ U with heap := s₂.heap, slotsUsed := s₂.slotsUsed } : State).setVm s₂.vm).setTop g).pushFrame (.throwing q) := by
      refine e3.trans ?_
      rw [hf₂, State.calling_eq h.top, State.setFrames_setFrames, State.pushFrame, State.frames_setTop _ hr', State.setTop_of_frames _ hr', State.setFrames_setFrames, hr]
      rfl
    have hsame : U.sameButNew ({ U with heap := s₂.heap, slotsUsed := s₂.slotsUsed } : State) L mc ms := by
      refine ⟨?_, q2, q3, q4, q5, q6⟩
      obtain ⟨t, ht, -⟩ := State.frames_cons hr
      show ({ U with heap := s₂.heap, slotsUsed := s₂.slotsUsed } : State) = { U.setFrames U.frames with heap := s₂.heap, slotsUsed := s₂.slotsUsed }
      rw [State.setFrames_self ht]
    subst hg
    refine Or.inr ⟨q, ⟨(({ U with heap := s₂.heap, slotsUsed := s₂.slotsUsed } : State).setVm s₂.vm), Ls ++ L, c0 + mc, s0 + ms⟩,
      ⟨X.admits, X.cas, X.clock, X.frames, X.room, X.hears, X.method, X.code, (X.here.setHeapUsed s₂.heap s₂.slotsUsed).setVm hW'.alike, X.tail, State.WarmedH.trans X.warmed hW', X.limits, X.bytes, X.same.trans (hsame.setVm s.vm)⟩,
      ⟨g, mk, s₂, L, E, ce, rfl, rfl, hx, hce, hcv, hcl, rfl, hL, rfl, rfl⟩, ?_⟩
    show Steps p.tables e below _ (((({ U with heap := s₂.heap, slotsUsed := s₂.slotsUsed } : State).setVm s₂.vm).setTop g).pushFrame (.throwing q))
    rw [← hs₂]
    exact hsteps
end
variable {p : Program} {l : Launch} {e : Env} {R : Room} {s : State} {m : MethodId} {args : Array Value} {below : List Frame} {meth : Method} {c : Code} {T : State} {H : Heap} {locs : List Loc} {cells slots : Nat}
theorem vx_callVX (X : Stand p l e R s m args below meth c T locs cells slots) (hexec : p.tables.exec = Jvm.exec) {own C : String} {index : Nat} {y : MethodName} {bytes : ByteArray} {maxL : Nat} {ret : Option FieldType} {hh : List (Nat × Nat × Nat × Nat)}
    (hown : s.vm.findClass own = some m.cls) (hlink : (Cond.methodLink own index y).before args s = true) (hinst : (Cond.instanceMethod y).before args s = true) (hsel : (Cond.selects C y y).before args s = true)
    (hcode : (Cond.codeWith y bytes maxL ret hh).before args s = true) (hy : y.cls ≠ "java/lang/invoke/MethodHandle" ∧ y.cls ≠ "java/lang/invoke/VarHandle")
    {W9 : Nat} {Pre : Pt → Array Value → Prop} {Post : Pt → Array Value → Option Value → Pt → Prop} {PostX : Pt → Array Value → Addr → Pt → Prop} (hK : vx_Back l R p e below s args y 3 W9 Pre Post PostX)
    {b : Addr} {cellB : Cell} (hcell : T.heap[b]? = some cellB) (hobj : cellB.vm.isStatics = false) (hcls : s.vm.findClass C = some cellB.cls)
    {g : JFrame} (hg : g.method = m) (hsize : g.locals.size = c.maxLocals) {argsL rest : List Value} (hlen : ∀ sig, parseMethodDescriptor y.desc = some sig → argsL.length = sig.parameters.length)
    (hstack : g.stack = argsL.reverse ++ .ref b :: rest) (hW : 2 * g.monitorRoom + (rest.map fun v => v.category).sum ≤ W9) (hdg : decode c.code g.pc = .ok (.invokevirtual index, 3))
    (hpre : ∀ vm₁, s.WarmedH vm₁ → Pre ⟨T.setVm vm₁, locs, cells, slots⟩ (Value.ref b :: argsL).toArray) :
    (∃ (v : Option Value) (vm₁ : Vm) (B : Pt), s.WarmedH vm₁ ∧ Stand p l e R s m args below meth c B.U B.locs B.cells B.slots ∧ Post ⟨T.setVm vm₁, locs, cells, slots⟩ (Value.ref b :: argsL).toArray v B ∧
      ∀ target, Steps p.tables e below (B.U.setTop { g with pc := g.pc + 3, stack := v.toList ++ rest }) target → Steps p.tables e below (T.setTop g) target) ∨
    (∃ (q : Addr) (vm₁ : Vm) (B : Pt), s.WarmedH vm₁ ∧ Stand p l e R s m args below meth c B.U B.locs B.cells B.slots ∧ PostX ⟨T.setVm vm₁, locs, cells, slots⟩ (Value.ref b :: argsL).toArray q B ∧
      Steps p.tables e below (T.setTop g) ((B.U.setTop { g with stack := rest }).pushFrame (.throwing q))) := by
  obtain ⟨mk, methM, hnamed, hmethM, hstM, habM⟩ := Cond.instanceMethod_spec hinst
  obtain ⟨m8, methM', cM, hn8, hmethM', -, -, -, -, -, -, hsigM⟩ := Cond.codeWith_spec hcode
  cases Option.some.inj (hn8.symm.trans hnamed)
  cases hmethM.symm.trans hmethM'
  obtain ⟨c2, r2, m2, q1, q2, q3, q4, kP, hkP, hkPi⟩ := Cond.selects_spec hsel
  cases hcls.symm.trans q1
  cases (State.methodFound?_of_named hnamed hy).symm.trans q2
  cases hnamed.symm.trans q3
  have hselP : selectMethod e.platform s.vm cellB.cls mk = .method mk := by rw [Launch.admits_selectMethod X.admits]; exact q4
  obtain ⟨vm₁, X₁, hstep₁⟩ := X.invokevirtual hexec hown hlink hnamed hmethM hstM hkP hkPi hy (a := b) (cell := cellB) hcell
    (fun z h => by rw [h] at hobj; cases hobj) hselP hmethM habM hkP hkPi (g := g) hg (argsL := argsL) (rest := rest) (hlen _ hsigM) hstack hdg
  rcases hK m meth c ⟨T.setVm vm₁, locs, cells, slots⟩ { g with stack := rest } (.invokevirtual index) mk (Value.ref b :: argsL).toArray X₁ hg hsize hdg hW (X₁.named hnamed) (hpre vm₁ X₁.warmed) with ⟨v, B, X', hpost, hsteps⟩ | ⟨q, B, X', hpost, hsteps⟩
  · exact Or.inl ⟨v, vm₁, B, X₁.warmed, X', hpost, fun target h => hstep₁ _ fun acts => by rw [doInvoke_state]; exact hsteps.trans h⟩
  · exact Or.inr ⟨q, vm₁, B, X₁.warmed, X', hpost, hstep₁ _ fun acts => by rw [doInvoke_state]; exact hsteps⟩
theorem vx_callSX (X : Stand p l e R s m args below meth c T locs cells slots) (hexec : p.tables.exec = Jvm.exec) {own : String} {index : Nat} {y : MethodName} {bytes : ByteArray} {maxL : Nat} {ret : Option FieldType} {hh : List (Nat × Nat × Nat × Nat)}
    (hown : s.vm.findClass own = some m.cls) (hlink : (Cond.methodLink own index y).before args s = true) (hstat : (Cond.static y).before args s = true) (hinit : (Cond.initialized y.cls).before args s = true)
    (hcode : (Cond.codeWith y bytes maxL ret hh).before args s = true) (hy : y.cls ≠ "java/lang/invoke/MethodHandle" ∧ y.cls ≠ "java/lang/invoke/VarHandle")
    {W9 : Nat} {Pre : Pt → Array Value → Prop} {Post : Pt → Array Value → Option Value → Pt → Prop} {PostX : Pt → Array Value → Addr → Pt → Prop} (hK : vx_Back l R p e below s args y 3 W9 Pre Post PostX)
    {g : JFrame} (hg : g.method = m) (hsize : g.locals.size = c.maxLocals) {argsL rest : List Value} (hlen : ∀ sig, parseMethodDescriptor y.desc = some sig → argsL.length = sig.parameters.length)
    (hstack : g.stack = argsL.reverse ++ rest) (hW : 2 * g.monitorRoom + (rest.map fun v => v.category).sum ≤ W9) (hdg : decode c.code g.pc = .ok (.invokestatic index, 3))
    (hpre : ∀ vm₁, s.WarmedH vm₁ → Pre ⟨T.setVm vm₁, locs, cells, slots⟩ argsL.toArray) :
    (∃ (v : Option Value) (vm₁ : Vm) (B : Pt), s.WarmedH vm₁ ∧ Stand p l e R s m args below meth c B.U B.locs B.cells B.slots ∧ Post ⟨T.setVm vm₁, locs, cells, slots⟩ argsL.toArray v B ∧
      ∀ target, Steps p.tables e below (B.U.setTop { g with pc := g.pc + 3, stack := v.toList ++ rest }) target → Steps p.tables e below (T.setTop g) target) ∨
    (∃ (q : Addr) (vm₁ : Vm) (B : Pt), s.WarmedH vm₁ ∧ Stand p l e R s m args below meth c B.U B.locs B.cells B.slots ∧ PostX ⟨T.setVm vm₁, locs, cells, slots⟩ argsL.toArray q B ∧
      Steps p.tables e below (T.setTop g) ((B.U.setTop { g with stack := rest }).pushFrame (.throwing q))) := by
  obtain ⟨mk, methM, cM, hnamed, hmethM, -, -, -, -, -, -, hsigM⟩ := Cond.codeWith_spec hcode
  have hstatic : methM.isStatic = true := Cond.static_spec hnamed hmethM hstat
  obtain ⟨kP, hkP, -⟩ := className_of_methodNamed hnamed
  have hinitP : kP.init = .initialized := Cond.initialized_spec (findClass_of_methodNamed hnamed) hkP hinit
  obtain ⟨vm₁, X₁, hstep₁⟩ := X.invokestatic hexec hown hlink hnamed hmethM hstatic hkP hinitP hy (g := g) hg (argsL := argsL) (rest := rest) (hlen _ hsigM) hstack hdg
  rcases hK m meth c ⟨T.setVm vm₁, locs, cells, slots⟩ { g with stack := rest } (.invokestatic index) mk argsL.toArray X₁ hg hsize hdg hW (X₁.named hnamed) (hpre vm₁ X₁.warmed) with ⟨v, B, X', hpost, hsteps⟩ | ⟨q, B, X', hpost, hsteps⟩
  · exact Or.inl ⟨v, vm₁, B, X₁.warmed, X', hpost, fun target h => hstep₁ _ fun acts => by rw [doInvoke_state]; exact hsteps.trans h⟩
  · exact Or.inr ⟨q, vm₁, B, X₁.warmed, X', hpost, hstep₁ _ fun acts => by rw [doInvoke_state]; exact hsteps⟩
theorem vx_callVW (X : Stand p l e R s m args below meth c T locs cells slots) (hexec : p.tables.exec = Jvm.exec) {own C : String} {index : Nat} {y : MethodName} {bytes : ByteArray} {maxL : Nat} {ret : Option FieldType} {hh : List (Nat × Nat × Nat × Nat)}
    (hown : s.vm.findClass own = some m.cls) (hlink : (Cond.methodLink own index y).before args s = true) (hinst : (Cond.instanceMethod y).before args s = true) (hsel : (Cond.selects C y y).before args s = true)
    (hcode : (Cond.codeWith y bytes maxL ret hh).before args s = true) (hy : y.cls ≠ "java/lang/invoke/MethodHandle" ∧ y.cls ≠ "java/lang/invoke/VarHandle")
    {W9 : Nat} {Pre : Pt → Array Value → Prop} {Post : Pt → Array Value → Option Value → Pt → Prop} (hK : Back l R p e below s args y 3 W9 Pre Post)
    {b : Addr} {cellB : Cell} (hcell : T.heap[b]? = some cellB) (hobj : cellB.vm.isStatics = false) (hcls : s.vm.findClass C = some cellB.cls)
    {g : JFrame} (hg : g.method = m) (hsize : g.locals.size = c.maxLocals) {argsL rest : List Value} (hlen : ∀ sig, parseMethodDescriptor y.desc = some sig → argsL.length = sig.parameters.length)
    (hstack : g.stack = argsL.reverse ++ .ref b :: rest) (hW : 2 * g.monitorRoom + (rest.map fun v => v.category).sum ≤ W9) (hdg : decode c.code g.pc = .ok (.invokevirtual index, 3))
    (hpre : ∀ vm₁, s.WarmedH vm₁ → Pre ⟨T.setVm vm₁, locs, cells, slots⟩ (Value.ref b :: argsL).toArray) :
    ∃ (v : Option Value) (vm₁ : Vm) (B : Pt), s.WarmedH vm₁ ∧ Stand p l e R s m args below meth c B.U B.locs B.cells B.slots ∧ Post ⟨T.setVm vm₁, locs, cells, slots⟩ (Value.ref b :: argsL).toArray v B ∧
      ∀ target, Steps p.tables e below (B.U.setTop { g with pc := g.pc + 3, stack := v.toList ++ rest }) target → Steps p.tables e below (T.setTop g) target := by
  obtain ⟨mk, methM, hnamed, hmethM, hstM, habM⟩ := Cond.instanceMethod_spec hinst
  obtain ⟨m8, methM', cM, hn8, hmethM', -, -, -, -, -, -, hsigM⟩ := Cond.codeWith_spec hcode
  cases Option.some.inj (hn8.symm.trans hnamed)
  cases hmethM.symm.trans hmethM'
  obtain ⟨c2, r2, m2, q1, q2, q3, q4, kP, hkP, hkPi⟩ := Cond.selects_spec hsel
  cases hcls.symm.trans q1
  cases (State.methodFound?_of_named hnamed hy).symm.trans q2
  cases hnamed.symm.trans q3
  have hselP : selectMethod e.platform s.vm cellB.cls mk = .method mk := by rw [Launch.admits_selectMethod X.admits]; exact q4
  obtain ⟨vm₁, X₁, hstep₁⟩ := X.invokevirtual hexec hown hlink hnamed hmethM hstM hkP hkPi hy (a := b) (cell := cellB) hcell
    (fun z h => by rw [h] at hobj; cases hobj) hselP hmethM habM hkP hkPi (g := g) hg (argsL := argsL) (rest := rest) (hlen _ hsigM) hstack hdg
  obtain ⟨v, B, X', hpost, hsteps⟩ := hK m meth c ⟨T.setVm vm₁, locs, cells, slots⟩ { g with stack := rest } (.invokevirtual index) mk (Value.ref b :: argsL).toArray X₁ hg hsize hdg hW (X₁.named hnamed) (hpre vm₁ X₁.warmed)
  exact ⟨v, vm₁, B, X₁.warmed, X', hpost, fun target h => hstep₁ _ fun acts => by rw [doInvoke_state]; exact hsteps.trans h⟩
abbrev vx_CVW (R : Room) (s : State) (args : Array Value) (own C : String) (index : Nat) (y : MethodName) (bytes : ByteArray) (maxL : Nat) (ret : Option FieldType) (hh : List (Nat × Nat × Nat × Nat)) (ws : List Cond) (rm : Room) (mc ms n : Nat) : Prop :=
  (rm.cells = mc ∧ rm.slots = ms ∧ rm.frames + 1 ≤ R.frames ∧ 8 + (maxL + 11) + rm.locals ≤ R.locals ∧ (∀ w ∈ ws, ∀ (a' : Array Value) (U : State), s.WarmedH U.vm → w.before a' U = true) ∧ Cond.codeWith y bytes maxL ret hh ∈ ws) ∧
  (Cond.codeWith y bytes maxL ret hh).before args s = true ∧ (Cond.initialized y.cls).before args s = true ∧ (y.cls ≠ "java/lang/invoke/MethodHandle" ∧ y.cls ≠ "java/lang/invoke/VarHandle") ∧
  (∀ sig, parseMethodDescriptor y.desc = some sig → n = sig.parameters.length) ∧ (Cond.methodLink own index y).before args s = true ∧ (Cond.instanceMethod y).before args s = true ∧ (Cond.selects C y y).before args s = true
theorem vx_cwVW {own C : String} {index maxL mc ms : Nat} {y : MethodName} {bytes : ByteArray} {ret : Option FieldType} {hh : List (Nat × Nat × Nat × Nat)} {Ts ws ws' : List Cond} {rm : Room} (n : Nat) (ht : ∀ w ∈ Ts, w.before args s = true) (hT : GoodIn Ts (wsV own index C y ws)) (hw : ws = Cond.codeWith y bytes maxL ret hh :: ws') (hrc : rm.cells = mc) (hrs : rm.slots = ms)
    (hd : y.cls = C ∧ y.cls ≠ "java/lang/invoke/MethodHandle" ∧ y.cls ≠ "java/lang/invoke/VarHandle" ∧ (parseMethodDescriptor y.desc).map (fun d => d.parameters.length) = some n) (hR : rm.frames + 1 ≤ R.frames ∧ 8 + (maxL + 11) + rm.locals ≤ R.locals) :
    vx_CVW R s args own C index y bytes maxL ret hh ws rm mc ms n := by
  obtain ⟨hC, hd⟩ := hd
  subst hC
  have ok : ∀ w ∈ wsV own index y.cls y ws, w.before args s = true := fun w h => ht w (hT w h).1
  have hG : GoodIn Ts ws := fun w h => hT w (by unfold wsV; exact List.mem_append_right _ h)
  have hc : Cond.codeWith y bytes maxL ret hh ∈ ws := by rw [hw]; exact List.mem_cons_self
  refine ⟨⟨hrc, hrs, hR.1, hR.2, pay_in ht hG, hc⟩, ht _ (hG _ hc).1, ok _ (by simp [wsV]), ⟨hd.1, hd.2.1⟩, fun sig h => ?_, ok _ (by simp [wsV]), ok _ (by simp [wsV]), ok _ (by simp [wsV])⟩
  have h2 := hd.2.2
  rw [h] at h2
  exact (Option.some.inj h2).symm
theorem vx_runVW {y : MethodName} {bytes cc : ByteArray} {maxL nL mc ms n index : Nat} {ret : Option FieldType} {hh : List (Nat × Nat × Nat × Nat)} {ws : List Cond} {rm : Room} {Pc : Array Value → State → Prop} {Qc : Array Value → State → Outcome → State → Prop} {free : Addr → Prop} {Ts : List Cond} {own C : String} {b : Addr} {As rest : List Value} {g : JFrame}
    (S : CallFix p m c cc nL s args Ts own) (hM : Met l y ws rm Pc Qc mc ms free) (cw : vx_CVW R s args own C index y bytes maxL ret hh ws rm mc ms n) (hp : PreV s H C b Pc As)
    (hg : g.method = m) (hn : As.length = n) (hsize : g.locals.size = nL) (hstack : g.stack = As.reverse ++ .ref b :: rest) (hW : 2 * g.monitorRoom + (rest.map fun v => v.category).sum ≤ 8) (hdg : decode cc g.pc = .ok (.invokevirtual index, 3)) (hf : cells + mc ≤ R.cells ∧ slots + ms ≤ R.slots) :
    va_Run p l e R s m args below meth c H locs cells slots mc ms g rest (Qc (Value.ref b :: As).toArray) free := by
  obtain ⟨⟨hrc, hrs, hfr, hlo, hws, hcw⟩, hcode, hini, hy, hlen, hl, hin, hse⟩ := cw
  have hK : Back l R p e below s args y 3 8 (PreOf R mc ms Pc) (PostOf Qc mc ms free) := va_backW (hh := hh) (bytes := bytes) (maxL := maxL) (ret := ret) hM hp.1 hrc hrs hfr hlo hws hcw (fun a' U hW => word_at hW (Or.inl (by first | rfl | simp [Cond.onTables, Cond.keeps, Cond.steady])) hini)
  obtain ⟨hx, hb, hml, ho, -⟩ := S
  obtain ⟨-, ⟨cellB, hcB, hoB, hclB⟩, hPc⟩ := hp
  intro T hT X
  obtain ⟨v, vm₁, ⟨U', l2, c2, s2⟩, hW₁, X', ⟨g', mk, t, L, e1, e2, hq, h1, hL, h2, h3⟩, st⟩ := vx_callVW X hx (C := C) (hh := hh) (bytes := bytes) (maxL := maxL) (ret := ret) ho hl hin hse hcode hy hK (by rw [hT]; exact hcB) hoB hclB hg (hsize.trans hml.symm) (argsL := As) (rest := rest) (fun sig h => hn.trans (hlen sig h)) hstack hW (by rw [hb]; exact hdg)
    (fun vm₁ hW₁ => ⟨hf.1, hf.2, hPc (T.setVm vm₁) hT hW₁⟩)
  dsimp only [Pt.U, Pt.locs, Pt.cells, Pt.slots] at X' e1 e2 h1 h2 h3 st
  subst h1; subst h2; subst h3
  exact ⟨v, (T.setVm vm₁).calling g' mk (Value.ref b :: As).toArray, t, U', L, hT, X', hL, e1, e2, hq, st⟩
section
variable {y : MethodName} {bytes cc : ByteArray} {maxL nL mc ms n index : Nat} {ret : Option FieldType} {ws : List Cond} {rm : Room} {Pc : Array Value → State → Prop} {Qc : Array Value → State → Outcome → State → Prop} {XC : String → State → State → Prop} {free : Addr → Prop} {Ts : List Cond} {own C : String} {b : Addr} {As rest : List Value} {g : JFrame}
theorem vx_runVX {hh : List (Nat × Nat × Nat × Nat)} (S : CallFix p m c cc nL s args Ts own) (hM : vx_Met l y ws rm Pc Qc XC mc ms free) (cw : vx_CVW R s args own C index y bytes maxL ret hh ws rm mc ms n) (hp : PreV s H C b Pc As)
    (hg : g.method = m) (hn : As.length = n) (hsize : g.locals.size = nL) (hstack : g.stack = As.reverse ++ .ref b :: rest) (hW : 2 * g.monitorRoom + (rest.map fun v => v.category).sum ≤ 8) (hdg : decode cc g.pc = .ok (.invokevirtual index, 3)) (hf : cells + mc ≤ R.cells ∧ slots + ms ≤ R.slots) :
    vx_Run p l e R s m args below meth c H locs cells slots mc ms g rest (Qc (Value.ref b :: As).toArray) XC free := by
  obtain ⟨⟨hrc, hrs, hfr, hlo, hws, hcw⟩, hcode, hini, hy, hlen, hl, hin, hse⟩ := cw
  have hK : vx_Back l R p e below s args y 3 8 (PreOf R mc ms Pc) (PostOf Qc mc ms free) (vx_Post XC mc ms free) := vx_backW (hh := hh) (bytes := bytes) (maxL := maxL) (ret := ret) hM hp.1 hrc hrs hfr hlo hws hcw (fun a' U hW => word_at hW (Or.inl (by first | rfl | simp [Cond.onTables, Cond.keeps, Cond.steady])) hini)
  obtain ⟨hx, hb, hml, ho, -⟩ := S
  obtain ⟨-, ⟨cellB, hcB, hoB, hclB⟩, hPc⟩ := hp
  intro T hT X
  rcases vx_callVX X hx (C := C) (hh := hh) (bytes := bytes) (maxL := maxL) (ret := ret) ho hl hin hse hcode hy hK (by rw [hT]; exact hcB) hoB hclB hg (hsize.trans hml.symm) (argsL := As) (rest := rest) (fun sig h => hn.trans (hlen sig h)) hstack hW (by rw [hb]; exact hdg)
    (fun vm₁ hW₁ => ⟨hf.1, hf.2, hPc (T.setVm vm₁) hT hW₁⟩) with ⟨v, vm₁, ⟨U', l2, c2, s2⟩, hW₁, X', ⟨g', mk, t, L, e1, e2, hq, h1, hL, h2, h3⟩, st⟩ | ⟨q, vm₁, ⟨U', l2, c2, s2⟩, hW₁, X', ⟨g', mk, t, L, E, ce, e1, e2, hq, hce, hcv, hcl, h1, hL, h2, h3⟩, st⟩
  · dsimp only [Pt.U, Pt.locs, Pt.cells, Pt.slots] at X' e1 e2 h1 h2 h3 st
    subst h1; subst h2; subst h3
    exact Or.inl ⟨v, (T.setVm vm₁).calling g' mk (Value.ref b :: As).toArray, t, U', L, hT, X', hL, e1, e2, hq, st⟩
  · dsimp only [Pt.U, Pt.locs, Pt.cells, Pt.slots] at X' e1 e2 h1 h2 h3 st hcl
    subst h1; subst h2; subst h3
    exact Or.inr ⟨q, (T.setVm vm₁).calling g' mk (Value.ref b :: As).toArray, t, U', L, E, ce, hT, X', hL, e1, e2, hq, hce, hcv, vx_cls hW₁ hcl, st⟩
theorem vx_runSX {hh : List (Nat × Nat × Nat × Nat)} (S : CallFix p m c cc nL s args Ts own) (hM : vx_Met l y ws rm Pc Qc XC mc ms free) (cw : vx_CSW R s args own index y bytes maxL ret hh ws rm mc ms n) (hp : PreS s H Pc As)
    (hg : g.method = m) (hn : As.length = n) (hsize : g.locals.size = nL) (hstack : g.stack = As.reverse ++ rest) (hW : 2 * g.monitorRoom + (rest.map fun v => v.category).sum ≤ 8) (hdg : decode cc g.pc = .ok (.invokestatic index, 3)) (hf : cells + mc ≤ R.cells ∧ slots + ms ≤ R.slots) :
    vx_Run p l e R s m args below meth c H locs cells slots mc ms g rest (Qc As.toArray) XC free := by
  obtain ⟨⟨hrc, hrs, hfr, hlo, hws, hcw⟩, hcode, hini, hy, hlen, hl, hstt⟩ := cw
  have hK : vx_Back l R p e below s args y 3 8 (PreOf R mc ms Pc) (PostOf Qc mc ms free) (vx_Post XC mc ms free) := vx_backW (hh := hh) (bytes := bytes) (maxL := maxL) (ret := ret) hM hp.1 hrc hrs hfr hlo hws hcw (fun a' U hW => word_at hW (Or.inl (by first | rfl | simp [Cond.onTables, Cond.keeps, Cond.steady])) hini)
  obtain ⟨hx, hb, hml, ho, -⟩ := S
  intro T hT X
  rcases vx_callSX X hx (hh := hh) (bytes := bytes) (maxL := maxL) (ret := ret) ho hl hstt hini hcode hy hK hg (hsize.trans hml.symm) (argsL := As) (rest := rest) (fun sig h => hn.trans (hlen sig h)) hstack hW (by rw [hb]; exact hdg)
    (fun vm₁ hW₁ => ⟨hf.1, hf.2, hp.2 (T.setVm vm₁) hT hW₁⟩) with ⟨v, vm₁, ⟨U', l2, c2, s2⟩, hW₁, X', ⟨g', mk, t, L, e1, e2, hq, h1, hL, h2, h3⟩, st⟩ | ⟨q, vm₁, ⟨U', l2, c2, s2⟩, hW₁, X', ⟨g', mk, t, L, E, ce, e1, e2, hq, hce, hcv, hcl, h1, hL, h2, h3⟩, st⟩
  · dsimp only [Pt.U, Pt.locs, Pt.cells, Pt.slots] at X' e1 e2 h1 h2 h3 st
    subst h1; subst h2; subst h3
    exact Or.inl ⟨v, (T.setVm vm₁).calling g' mk As.toArray, t, U', L, hT, X', hL, e1, e2, hq, st⟩
  · dsimp only [Pt.U, Pt.locs, Pt.cells, Pt.slots] at X' e1 e2 h1 h2 h3 st hcl
    subst h1; subst h2; subst h3
    exact Or.inr ⟨q, (T.setVm vm₁).calling g' mk As.toArray, t, U', L, E, ce, hT, X', hL, e1, e2, hq, hce, hcv, vx_cls hW₁ hcl, st⟩
end
end VXH
theorem vx_ofWH {l : Launch} {y : MethodName} {ws ws' : List Cond} {rm : Room} {Pc : Array Value → State → Prop} {Qc : Array Value → State → Outcome → State → Prop} {XC : String → State → State → Prop} {mc ms : Nat} {free : Addr → Prop} {cc : ByteArray} {maxL : Nat} {ret : Option FieldType} {hh : List (Nat × Nat × Nat × Nat)}
    (hy : plainName y.cls = true) (hw : ws = Cond.codeWith y cc maxL ret hh :: ws')
    (body : ∀ p e s m args below meth c s₁, BodyLoose p l y (headSpec ws rm) cc maxL ret e s m args below meth c s₁ → c.maxLocals = maxL → Pc args s →
      W p l e (headSpec ws rm).room s m args below meth c s.heap [] 0 0 (vx_MQ below Qc XC args s mc ms free) (entryFrame m args maxL)) : vx_Met l y ws rm Pc Qc XC mc ms free := by
  refine MetFree.of_bodyS (code := cc) (maxLocals := maxL) (ret := ret) hy ?_ ?_
  · intro args s m h hn
    obtain ⟨m9, meth, c, hn9, h1, h2, h3, h4, -, h5, h6, -⟩ := Cond.codeWith_spec (atoms_spec (ws := ws) h _ (by rw [hw]; exact List.mem_cons_self))
    cases hn.symm.trans hn9
    exact ⟨meth, c, h1, h2, h3, h4, h5, h6⟩
  · intro p e s m args below meth c s₁ B hml hP _
    have hh0 : s₁.heap = s.heap := by rw [B.state]; rfl
    obtain ⟨t, a1, o, b1, b2, b3⟩ := body p e s m args below meth c s₁ B hml hP s₁ hh0 (Stand.of_body B)
    exact ⟨t, o, a1, b1, b2, b3⟩
/-! ===== END ===== -/

/-! ===== BEGIN printed: names, fields, word lists, decode rows ===== -/
def RX0 : String := "LazyMotion$Machine"
def TX0 : u_T := fun k => match k with
  | 0 => ("LazyMotion$Machine", "computations", "I", false)
  | 1 => ("LazyMotion$Machine", "given", "I", false)
  | 2 => ("LazyMotion$Machine", "passed", "I", false)
  | 3 => ("LazyMotion$Machine", "variables", "[I", true)
  | 4 => ("LazyMotion$Machine", "made", "[I", true)
  | 5 => ("LazyMotion$Machine", "numbers", "[I", true)
  | 6 => ("LazyMotion$Machine", "program", "LLazyMotion$Program;", true)
  | 7 => ("LazyMotion$Machine", "motion", "LLazyMotion$Motion;", true)
  | _ => ("LazyMotion$Machine", "temporaries", "[I", true)
def tyX0 : Nat → FieldType := fun k => match k with
  | 0 => .int
  | 1 => .int
  | 2 => .int
  | 3 => .array .int
  | 4 => .array .int
  | 5 => .array .int
  | 6 => .object "LazyMotion$Program"
  | 7 => .object "LazyMotion$Motion"
  | _ => .array .int
abbrev wsX00 : List Cond := u_ws RX0 TX0 9
theorem nmX0 : ∀ a, a < 9 → ∀ b, b < 9 → a ≠ b → (TX0 a).2.1 ≠ (TX0 b).2.1 := by decide +kernel
theorem tyX0_ok : ∀ k, k < 9 → parseFieldDescriptor (TX0 k).2.2.1 = some (tyX0 k) := by decide +kernel
abbrev cX0_init : ByteArray := prog_2_method_1_code
def yX0_init : MethodName := ⟨RX0, "<init>", "(LLazyMotion$Program;LLazyMotion$Motion;)V"⟩
def RX1 : String := "LazyMotion$Motion"
def TX1 : u_T := fun k => match k with
  | 0 => ("LazyMotion$Motion", "program", "LLazyMotion$Program;", true)
  | 1 => ("LazyMotion$Motion", "reached", "[Z", true)
  | 2 => ("LazyMotion$Motion", "changes", "[J", true)
  | 3 => ("LazyMotion$Motion", "asks", "[J", true)
  | 4 => ("LazyMotion$Motion", "leaves", "[J", true)
  | 5 => ("LazyMotion$Motion", "thereBefore", "[J", true)
  | 6 => ("LazyMotion$Motion", "thereBehind", "[J", true)
  | 7 => ("LazyMotion$Motion", "wantedBefore", "[J", true)
  | 8 => ("LazyMotion$Motion", "wantedBehind", "[J", true)
  | 9 => ("LazyMotion$Motion", "lateBefore", "[J", true)
  | _ => ("LazyMotion$Motion", "takenOut", "[J", true)
def tyX1 : Nat → FieldType := fun k => match k with
  | 0 => .object "LazyMotion$Program"
  | 1 => .array .boolean
  | 2 => .array .long
  | 3 => .array .long
  | 4 => .array .long
  | 5 => .array .long
  | 6 => .array .long
  | 7 => .array .long
  | 8 => .array .long
  | 9 => .array .long
  | _ => .array .long
abbrev wsX10 : List Cond := u_ws RX1 TX1 11
theorem nmX1 : ∀ a, a < 11 → ∀ b, b < 11 → a ≠ b → (TX1 a).2.1 ≠ (TX1 b).2.1 := by decide +kernel
theorem tyX1_ok : ∀ k, k < 11 → parseFieldDescriptor (TX1 k).2.2.1 = some (tyX1 k) := by decide +kernel
abbrev cX1_init : ByteArray := prog_3_method_1_code
def yX1_init : MethodName := ⟨RX1, "<init>", "(LLazyMotion$Program;)V"⟩
def RX2 : String := "LazyMotion$Program"
def TX2 : u_T := fun k => match k with
  | 0 => ("LazyMotion$Program", "blocks", "I", false)
  | 1 => ("LazyMotion$Program", "expressions", "I", false)
  | 2 => ("LazyMotion$Program", "sizes", "[I", true)
  | 3 => ("LazyMotion$Program", "kinds", "[I", true)
  | 4 => ("LazyMotion$Program", "targets", "[I", true)
  | 5 => ("LazyMotion$Program", "operands", "[I", true)
  | 6 => ("LazyMotion$Program", "tested", "[I", true)
  | 7 => ("LazyMotion$Program", "firsts", "[I", true)
  | 8 => ("LazyMotion$Program", "seconds", "[I", true)
  | 9 => ("LazyMotion$Program", "lefts", "[I", true)
  | 10 => ("LazyMotion$Program", "operators", "[I", true)
  | 11 => ("LazyMotion$Program", "rights", "[I", true)
  | _ => ("LazyMotion$Program", "users", "[J", true)
def tyX2 : Nat → FieldType := fun k => match k with
  | 0 => .int
  | 1 => .int
  | 2 => .array .int
  | 3 => .array .int
  | 4 => .array .int
  | 5 => .array .int
  | 6 => .array .int
  | 7 => .array .int
  | 8 => .array .int
  | 9 => .array .int
  | 10 => .array .int
  | 11 => .array .int
  | _ => .array .long
abbrev wsX20 : List Cond := u_ws RX2 TX2 13
theorem nmX2 : ∀ a, a < 13 → ∀ b, b < 13 → a ≠ b → (TX2 a).2.1 ≠ (TX2 b).2.1 := by decide +kernel
theorem tyX2_ok : ∀ k, k < 13 → parseFieldDescriptor (TX2 k).2.2.1 = some (tyX2 k) := by decide +kernel
abbrev cX2_init : ByteArray := prog_4_method_1_code
def yX2_init : MethodName := ⟨RX2, "<init>", "()V"⟩
def RX3 : String := "LazyMotion"
def TX3 : u_T := fun k => match k with
  | 0 => ("LazyMotion", "program", "LLazyMotion$Program;", true)
  | 1 => ("LazyMotion", "motion", "LLazyMotion$Motion;", true)
  | 2 => ("LazyMotion", "machine", "LLazyMotion$Machine;", true)
  | 3 => ("LazyMotion", "planned", "Z", false)
  | _ => ("LazyMotion", "plans", "I", false)
def tyX3 : Nat → FieldType := fun k => match k with
  | 0 => .object "LazyMotion$Program"
  | 1 => .object "LazyMotion$Motion"
  | 2 => .object "LazyMotion$Machine"
  | 3 => .boolean
  | _ => .int
abbrev wsX30 : List Cond := u_ws RX3 TX3 5
theorem nmX3 : ∀ a, a < 5 → ∀ b, b < 5 → a ≠ b → (TX3 a).2.1 ≠ (TX3 b).2.1 := by decide +kernel
theorem tyX3_ok : ∀ k, k < 5 → parseFieldDescriptor (TX3 k).2.2.1 = some (tyX3 k) := by decide +kernel
abbrev cX3_init : ByteArray := prog_1_method_1_code
def yX3_init : MethodName := ⟨RX3, "<init>", "()V"⟩
abbrev cX3_block : ByteArray := prog_1_method_2_code
def yX3_block : MethodName := ⟨RX3, "block", "()I"⟩
abbrev cX3_outs : ByteArray := prog_1_method_10_code
def yX3_outs : MethodName := ⟨RX3, "outs", "()I"⟩
abbrev cX3_computed : ByteArray := prog_1_method_13_code
def yX3_computed : MethodName := ⟨RX3, "computed", "(I)I"⟩
def RX4 : String := "LazyMotionModel"
def TX4 : u_T := fun k => match k with
  | _ => ("", "", "", false)
def tyX4 : Nat → FieldType := fun k => match k with
  | _ => .int
abbrev wsX40 : List Cond := u_ws RX4 TX4 0
theorem nmX4 : ∀ a, a < 0 → ∀ b, b < 0 → a ≠ b → (TX4 a).2.1 ≠ (TX4 b).2.1 := by decide +kernel
theorem tyX4_ok : ∀ k, k < 0 → parseFieldDescriptor (TX4 k).2.2.1 = some (tyX4 k) := by decide +kernel
def RJ13 : String := "java/lang/Long"
def TJ13 : u_T := fun k => match k with
  | _ => ("", "", "", false)
def tyJ13 : Nat → FieldType := fun k => match k with
  | _ => .int
abbrev wsJ130 : List Cond := u_ws RJ13 TJ13 0
theorem nmJ13 : ∀ a, a < 0 → ∀ b, b < 0 → a ≠ b → (TJ13 a).2.1 ≠ (TJ13 b).2.1 := by decide +kernel
theorem tyJ13_ok : ∀ k, k < 0 → parseFieldDescriptor (TJ13 k).2.2.1 = some (tyJ13 k) := by decide +kernel
def RJ0 : String := "java/lang/String"
def TJ0 : u_T := fun k => match k with
  | _ => ("", "", "", false)
def tyJ0 : Nat → FieldType := fun k => match k with
  | _ => .int
abbrev wsJ00 : List Cond := u_ws RJ0 TJ0 0
theorem nmJ0 : ∀ a, a < 0 → ∀ b, b < 0 → a ≠ b → (TJ0 a).2.1 ≠ (TJ0 b).2.1 := by decide +kernel
theorem tyJ0_ok : ∀ k, k < 0 → parseFieldDescriptor (TJ0 k).2.2.1 = some (tyJ0 k) := by decide +kernel
def RJ7 : String := "java/util/Arrays"
def TJ7 : u_T := fun k => match k with
  | _ => ("", "", "", false)
def tyJ7 : Nat → FieldType := fun k => match k with
  | _ => .int
abbrev wsJ70 : List Cond := u_ws RJ7 TJ7 0
theorem nmJ7 : ∀ a, a < 0 → ∀ b, b < 0 → a ≠ b → (TJ7 a).2.1 ≠ (TJ7 b).2.1 := by decide +kernel
theorem tyJ7_ok : ∀ k, k < 0 → parseFieldDescriptor (TJ7 k).2.2.1 = some (tyJ7 k) := by decide +kernel
def RL : String := "LazyMotionLaw"
abbrev cL_block : ByteArray := method_3_code
def yL_block : MethodName := ⟨RL, "block", "(LLazyMotion;[J)I"⟩
abbrev cL_law : ByteArray := code
def yL_law : MethodName := ⟨RL, "law", "([I)Z"⟩
def wsX0_init : List Cond := .code yX0_init cX0_init 3 none :: ([.methodLink RX0 3 objectInit, .instanceMethod objectInit, .code objectInit ⟨#[0xb1]⟩ 1 none, .fieldLink RX0 9 "LazyMotion$Machine" "computations" "I", .fieldLink RX0 15 "LazyMotion$Machine" "given" "I", .fieldLink RX0 18 "LazyMotion$Machine" "passed" "I", .arrayClass .int, .fieldLink RX0 21 "LazyMotion$Machine" "variables" "[I", .fieldLink RX0 25 "LazyMotion$Machine" "made" "[I", .fieldLink RX0 28 "LazyMotion$Machine" "numbers" "[I", .fieldLink RX0 31 "LazyMotion$Machine" "temporaries" "[I", .fieldLink RX0 34 "LazyMotion$Machine" "program" "LLazyMotion$Program;", .fieldLink RX0 38 "LazyMotion$Machine" "motion" "LLazyMotion$Motion;"] ++ wsX00)
def wsX1_init : List Cond := .code yX1_init cX1_init 2 none :: ([.methodLink RX1 3 objectInit, .instanceMethod objectInit, .code objectInit ⟨#[0xb1]⟩ 1 none, .arrayClass .boolean, .fieldLink RX1 9 "LazyMotion$Motion" "reached" "[Z", .arrayClass .long, .fieldLink RX1 15 "LazyMotion$Motion" "changes" "[J", .fieldLink RX1 19 "LazyMotion$Motion" "asks" "[J", .fieldLink RX1 22 "LazyMotion$Motion" "leaves" "[J", .fieldLink RX1 25 "LazyMotion$Motion" "thereBefore" "[J", .fieldLink RX1 28 "LazyMotion$Motion" "thereBehind" "[J", .fieldLink RX1 31 "LazyMotion$Motion" "wantedBefore" "[J", .fieldLink RX1 34 "LazyMotion$Motion" "wantedBehind" "[J", .fieldLink RX1 37 "LazyMotion$Motion" "lateBefore" "[J", .fieldLink RX1 40 "LazyMotion$Motion" "takenOut" "[J", .fieldLink RX1 43 "LazyMotion$Motion" "program" "LLazyMotion$Program;"] ++ wsX10)
def wsX2_init : List Cond := .code yX2_init cX2_init 1 none :: ([.methodLink RX2 3 objectInit, .instanceMethod objectInit, .code objectInit ⟨#[0xb1]⟩ 1 none, .fieldLink RX2 9 "LazyMotion$Program" "blocks" "I", .fieldLink RX2 15 "LazyMotion$Program" "expressions" "I", .arrayClass .int, .fieldLink RX2 18 "LazyMotion$Program" "sizes" "[I", .fieldLink RX2 22 "LazyMotion$Program" "kinds" "[I", .fieldLink RX2 25 "LazyMotion$Program" "targets" "[I", .fieldLink RX2 28 "LazyMotion$Program" "operands" "[I", .fieldLink RX2 31 "LazyMotion$Program" "tested" "[I", .fieldLink RX2 34 "LazyMotion$Program" "firsts" "[I", .fieldLink RX2 37 "LazyMotion$Program" "seconds" "[I", .fieldLink RX2 40 "LazyMotion$Program" "lefts" "[I", .fieldLink RX2 43 "LazyMotion$Program" "operators" "[I", .fieldLink RX2 46 "LazyMotion$Program" "rights" "[I", .arrayClass .long, .fieldLink RX2 49 "LazyMotion$Program" "users" "[J"] ++ wsX20)
def wsX3_init_r1 : List Cond := [Cond.methodLink RX3 3 objectInit, Cond.instanceMethod objectInit, Cond.code objectInit ⟨#[0xb1]⟩ 1 none, Cond.classLink RX3 9 RX2, Cond.instantiable RX2 13, Cond.initialized RX2, Cond.classLink RX3 12 RX1, Cond.instantiable RX1 11, Cond.initialized RX1, Cond.fieldLink RX3 17 "LazyMotion" "program" "LLazyMotion$Program;", Cond.fieldLink RX3 21 "LazyMotion" "motion" "LLazyMotion$Motion;", Cond.classLink RX3 25 RX0, Cond.instantiable RX0 9, Cond.initialized RX0, Cond.fieldLink RX3 30 "LazyMotion" "machine" "LLazyMotion$Machine;", Cond.fieldLink RX3 34 "LazyMotion" "planned" "Z", Cond.fieldLink RX3 38 "LazyMotion" "plans" "I", Cond.instanceMethod yX2_init, Cond.code yX2_init cX2_init 1 none, Cond.methodLink RX2 3 objectInit, Cond.fieldLink RX2 9 "LazyMotion$Program" "blocks" "I", Cond.fieldLink RX2 15 "LazyMotion$Program" "expressions" "I", Cond.arrayClass .int, Cond.fieldLink RX2 18 "LazyMotion$Program" "sizes" "[I"]
def wsX3_init_r2 : List Cond := [Cond.fieldLink RX2 22 "LazyMotion$Program" "kinds" "[I", Cond.fieldLink RX2 25 "LazyMotion$Program" "targets" "[I", Cond.fieldLink RX2 28 "LazyMotion$Program" "operands" "[I", Cond.fieldLink RX2 31 "LazyMotion$Program" "tested" "[I", Cond.fieldLink RX2 34 "LazyMotion$Program" "firsts" "[I", Cond.fieldLink RX2 37 "LazyMotion$Program" "seconds" "[I", Cond.fieldLink RX2 40 "LazyMotion$Program" "lefts" "[I", Cond.fieldLink RX2 43 "LazyMotion$Program" "operators" "[I", Cond.fieldLink RX2 46 "LazyMotion$Program" "rights" "[I", Cond.arrayClass .long, Cond.fieldLink RX2 49 "LazyMotion$Program" "users" "[J", Cond.methodLink RX3 14 yX1_init, Cond.instanceMethod yX1_init, Cond.code yX1_init cX1_init 2 none, Cond.methodLink RX1 3 objectInit, Cond.arrayClass .boolean, Cond.fieldLink RX1 9 "LazyMotion$Motion" "reached" "[Z", Cond.fieldLink RX1 15 "LazyMotion$Motion" "changes" "[J", Cond.fieldLink RX1 19 "LazyMotion$Motion" "asks" "[J", Cond.fieldLink RX1 22 "LazyMotion$Motion" "leaves" "[J", Cond.fieldLink RX1 25 "LazyMotion$Motion" "thereBefore" "[J", Cond.fieldLink RX1 28 "LazyMotion$Motion" "thereBehind" "[J", Cond.fieldLink RX1 31 "LazyMotion$Motion" "wantedBefore" "[J", Cond.fieldLink RX1 34 "LazyMotion$Motion" "wantedBehind" "[J"]
def wsX3_init_r3 : List Cond := [Cond.fieldLink RX1 37 "LazyMotion$Motion" "lateBefore" "[J", Cond.fieldLink RX1 40 "LazyMotion$Motion" "takenOut" "[J", Cond.fieldLink RX1 43 "LazyMotion$Motion" "program" "LLazyMotion$Program;", Cond.methodLink RX3 27 yX0_init, Cond.instanceMethod yX0_init, Cond.code yX0_init cX0_init 3 none, Cond.methodLink RX0 3 objectInit, Cond.fieldLink RX0 9 "LazyMotion$Machine" "computations" "I", Cond.fieldLink RX0 15 "LazyMotion$Machine" "given" "I", Cond.fieldLink RX0 18 "LazyMotion$Machine" "passed" "I", Cond.fieldLink RX0 21 "LazyMotion$Machine" "variables" "[I", Cond.fieldLink RX0 25 "LazyMotion$Machine" "made" "[I", Cond.fieldLink RX0 28 "LazyMotion$Machine" "numbers" "[I", Cond.fieldLink RX0 31 "LazyMotion$Machine" "temporaries" "[I", Cond.fieldLink RX0 34 "LazyMotion$Machine" "program" "LLazyMotion$Program;", Cond.fieldLink RX0 38 "LazyMotion$Machine" "motion" "LLazyMotion$Motion;"]
def wsX3_init : List Cond := .code yX3_init cX3_init 3 none :: ((wsX3_init_r1 ++ (wsX3_init_r2 ++ wsX3_init_r3)) ++ wsX20 ++ wsX10 ++ wsX30 ++ wsX00)
def wsX3_block : List Cond := .code yX3_block cX3_block 1 (some .int) :: ([.classLink RX3 45 "java/lang/IllegalStateException", .initialized "java/lang/IllegalStateException", .fieldLink RX3 17 "LazyMotion" "program" "LLazyMotion$Program;", .fieldLink RX3 42 "LazyMotion$Program" "blocks" "I", .fieldLink RX3 34 "LazyMotion" "planned" "Z"] ++ wsX30 ++ wsX20 ++ (vx_atS RX3 49 "java/lang/IllegalStateException" ["java/lang/RuntimeException", "java/lang/Exception"]).filter goodWord)
def wsX3_outs : List Cond := .code yX3_outs cX3_outs 1 (some .int) :: ([.fieldLink RX3 30 "LazyMotion" "machine" "LLazyMotion$Machine;", .fieldLink RX3 149 "LazyMotion$Machine" "given" "I"] ++ wsX30 ++ wsX00)
def wsX3_computed : List Cond := .code yX3_computed cX3_computed 2 (some .int) :: ([.fieldLink RX3 30 "LazyMotion" "machine" "LLazyMotion$Machine;", .fieldLink RX3 166 "LazyMotion$Machine" "made" "[I"] ++ wsX30 ++ wsX00)
def wsL_block : List Cond := .codeWith yL_block cL_block 3 (some .int) [(0, 8, 11, 13)] :: ([.classLink RL 13 "java/lang/IllegalStateException", .methodLink RL 7 yX3_block, .instanceMethod yX3_block, .selects RX3 yX3_block yX3_block, .initialized RX3, .code yX3_block cX3_block 1 (some .int), .classLink RX3 45 "java/lang/IllegalStateException", .initialized "java/lang/IllegalStateException", .fieldLink RX3 17 "LazyMotion" "program" "LLazyMotion$Program;", .fieldLink RX3 42 "LazyMotion$Program" "blocks" "I", .fieldLink RX3 34 "LazyMotion" "planned" "Z"] ++ wsX30 ++ wsX20 ++ (vx_atS RX3 49 "java/lang/IllegalStateException" ["java/lang/RuntimeException", "java/lang/Exception"]).filter goodWord)
def wsL_law0_r1 : List Cond := [Cond.classLink RL 8 RX3, Cond.instantiable RX3 5, Cond.initialized RX3, Cond.arrayClass .long, Cond.methodLink RL 58 yX3_init, Cond.instanceMethod yX3_init, Cond.code yX3_init cX3_init 3 none, Cond.methodLink RX3 3 objectInit, Cond.instanceMethod objectInit, Cond.code objectInit ⟨#[0xb1]⟩ 1 none, Cond.classLink RX3 9 RX2, Cond.instantiable RX2 13, Cond.initialized RX2, Cond.classLink RX3 12 RX1, Cond.instantiable RX1 11, Cond.initialized RX1, Cond.fieldLink RX3 17 "LazyMotion" "program" "LLazyMotion$Program;", Cond.fieldLink RX3 21 "LazyMotion" "motion" "LLazyMotion$Motion;", Cond.classLink RX3 25 RX0, Cond.instantiable RX0 9, Cond.initialized RX0, Cond.fieldLink RX3 30 "LazyMotion" "machine" "LLazyMotion$Machine;", Cond.fieldLink RX3 34 "LazyMotion" "planned" "Z", Cond.fieldLink RX3 38 "LazyMotion" "plans" "I"]
def wsL_law0_r2 : List Cond := [Cond.instanceMethod yX2_init, Cond.code yX2_init cX2_init 1 none, Cond.methodLink RX2 3 objectInit, Cond.fieldLink RX2 9 "LazyMotion$Program" "blocks" "I", Cond.fieldLink RX2 15 "LazyMotion$Program" "expressions" "I", Cond.arrayClass .int, Cond.fieldLink RX2 18 "LazyMotion$Program" "sizes" "[I", Cond.fieldLink RX2 22 "LazyMotion$Program" "kinds" "[I", Cond.fieldLink RX2 25 "LazyMotion$Program" "targets" "[I", Cond.fieldLink RX2 28 "LazyMotion$Program" "operands" "[I", Cond.fieldLink RX2 31 "LazyMotion$Program" "tested" "[I", Cond.fieldLink RX2 34 "LazyMotion$Program" "firsts" "[I", Cond.fieldLink RX2 37 "LazyMotion$Program" "seconds" "[I", Cond.fieldLink RX2 40 "LazyMotion$Program" "lefts" "[I", Cond.fieldLink RX2 43 "LazyMotion$Program" "operators" "[I", Cond.fieldLink RX2 46 "LazyMotion$Program" "rights" "[I", Cond.fieldLink RX2 49 "LazyMotion$Program" "users" "[J", Cond.methodLink RX3 14 yX1_init, Cond.instanceMethod yX1_init, Cond.code yX1_init cX1_init 2 none, Cond.methodLink RX1 3 objectInit, Cond.arrayClass .boolean, Cond.fieldLink RX1 9 "LazyMotion$Motion" "reached" "[Z", Cond.fieldLink RX1 15 "LazyMotion$Motion" "changes" "[J"]
def wsL_law0_r3 : List Cond := [Cond.fieldLink RX1 19 "LazyMotion$Motion" "asks" "[J", Cond.fieldLink RX1 22 "LazyMotion$Motion" "leaves" "[J", Cond.fieldLink RX1 25 "LazyMotion$Motion" "thereBefore" "[J", Cond.fieldLink RX1 28 "LazyMotion$Motion" "thereBehind" "[J", Cond.fieldLink RX1 31 "LazyMotion$Motion" "wantedBefore" "[J", Cond.fieldLink RX1 34 "LazyMotion$Motion" "wantedBehind" "[J", Cond.fieldLink RX1 37 "LazyMotion$Motion" "lateBefore" "[J", Cond.fieldLink RX1 40 "LazyMotion$Motion" "takenOut" "[J", Cond.fieldLink RX1 43 "LazyMotion$Motion" "program" "LLazyMotion$Program;", Cond.methodLink RX3 27 yX0_init, Cond.instanceMethod yX0_init, Cond.code yX0_init cX0_init 3 none, Cond.methodLink RX0 3 objectInit, Cond.fieldLink RX0 9 "LazyMotion$Machine" "computations" "I", Cond.fieldLink RX0 15 "LazyMotion$Machine" "given" "I", Cond.fieldLink RX0 18 "LazyMotion$Machine" "passed" "I", Cond.fieldLink RX0 21 "LazyMotion$Machine" "variables" "[I", Cond.fieldLink RX0 25 "LazyMotion$Machine" "made" "[I", Cond.fieldLink RX0 28 "LazyMotion$Machine" "numbers" "[I", Cond.fieldLink RX0 31 "LazyMotion$Machine" "temporaries" "[I", Cond.fieldLink RX0 34 "LazyMotion$Machine" "program" "LLazyMotion$Program;", Cond.fieldLink RX0 38 "LazyMotion$Machine" "motion" "LLazyMotion$Motion;", Cond.methodLink RL 62 yL_block, Cond.static yL_block]
def wsL_law0_r4 : List Cond := [Cond.initialized RL, Cond.codeWith yL_block cL_block 3 (some .int) [(0, 8, 11, 13)], Cond.classLink RL 13 "java/lang/IllegalStateException", Cond.methodLink RL 7 yX3_block, Cond.instanceMethod yX3_block, Cond.selects RX3 yX3_block yX3_block, Cond.code yX3_block cX3_block 1 (some .int), Cond.classLink RX3 45 "java/lang/IllegalStateException", Cond.initialized "java/lang/IllegalStateException", Cond.fieldLink RX3 42 "LazyMotion$Program" "blocks" "I", Cond.methodLink RL 96 yX3_outs, Cond.instanceMethod yX3_outs, Cond.selects RX3 yX3_outs yX3_outs, Cond.code yX3_outs cX3_outs 1 (some .int), Cond.fieldLink RX3 149 "LazyMotion$Machine" "given" "I", Cond.methodLink RL 107 yX3_computed, Cond.instanceMethod yX3_computed, Cond.selects RX3 yX3_computed yX3_computed, Cond.code yX3_computed cX3_computed 2 (some .int), Cond.fieldLink RX3 166 "LazyMotion$Machine" "made" "[I"]
def wsL_law0 : List Cond := (wsL_law0_r1 ++ (wsL_law0_r2 ++ (wsL_law0_r3 ++ wsL_law0_r4))) ++ wsX30 ++ wsX20 ++ wsX10 ++ wsX00 ++ ([] : List Cond)
def wsL_law : List Cond := wsL_law0 ++ (vx_atS RX3 49 "java/lang/IllegalStateException" ["java/lang/RuntimeException", "java/lang/Exception"]).filter goodWord
theorem wsL_law_x0 : ∀ w ∈ (vx_atS RX3 49 "java/lang/IllegalStateException" ["java/lang/RuntimeException", "java/lang/Exception"]).filter goodWord, w ∈ lw_tbl := by decide +kernel
theorem inlX0 : ∀ w ∈ wsX00, w ∈ wsL_law := fun _ h => List.mem_append_left _ (List.mem_append_left _ (List.mem_append_right _ h))
theorem inlX1 : ∀ w ∈ wsX10, w ∈ wsL_law := fun _ h => List.mem_append_left _ (List.mem_append_left _ (List.mem_append_left _ (List.mem_append_right _ h)))
theorem inlX2 : ∀ w ∈ wsX20, w ∈ wsL_law := fun _ h => List.mem_append_left _ (List.mem_append_left _ (List.mem_append_left _ (List.mem_append_left _ (List.mem_append_right _ h))))
theorem inlX3 : ∀ w ∈ wsX30, w ∈ wsL_law := fun _ h => List.mem_append_left _ (List.mem_append_left _ (List.mem_append_left _ (List.mem_append_left _ (List.mem_append_left _ (List.mem_append_right _ h)))))
theorem inX4 : ∀ w ∈ wsX40, w ∈ lw_tbl := by decide +kernel
theorem inJ13 : ∀ w ∈ wsJ130, w ∈ lw_tbl := by decide +kernel
theorem inJ0 : ∀ w ∈ wsJ00, w ∈ lw_tbl := by decide +kernel
theorem inJ7 : ∀ w ∈ wsJ70, w ∈ lw_tbl := by decide +kernel
theorem dX0_init_0 : decode cX0_init 0 = .ok (.aload_n 0, 1) := by decide +kernel
theorem dX0_init_1 : decode cX0_init 1 = .ok (.invokespecial 3, 3) := by decide +kernel
theorem dX0_init_4 : decode cX0_init 4 = .ok (.aload_n 0, 1) := by decide +kernel
theorem dX0_init_5 : decode cX0_init 5 = .ok (.iconst 0, 1) := by decide +kernel
theorem dX0_init_6 : decode cX0_init 6 = .ok (.putfield 9, 3) := by decide +kernel
theorem dX0_init_9 : decode cX0_init 9 = .ok (.aload_n 0, 1) := by decide +kernel
theorem dX0_init_10 : decode cX0_init 10 = .ok (.iconst 0, 1) := by decide +kernel
theorem dX0_init_11 : decode cX0_init 11 = .ok (.putfield 15, 3) := by decide +kernel
theorem dX0_init_14 : decode cX0_init 14 = .ok (.aload_n 0, 1) := by decide +kernel
theorem dX0_init_15 : decode cX0_init 15 = .ok (.iconst 0, 1) := by decide +kernel
theorem dX0_init_16 : decode cX0_init 16 = .ok (.putfield 18, 3) := by decide +kernel
theorem dX0_init_19 : decode cX0_init 19 = .ok (.aload_n 0, 1) := by decide +kernel
theorem dX0_init_20 : decode cX0_init 20 = .ok (.bipush 6, 2) := by decide +kernel
theorem dX0_init_22 : decode cX0_init 22 = .ok (.newarray .int, 2) := by decide +kernel
theorem dX0_init_24 : decode cX0_init 24 = .ok (.putfield 21, 3) := by decide +kernel
theorem dX0_init_27 : decode cX0_init 27 = .ok (.aload_n 0, 1) := by decide +kernel
theorem dX0_init_28 : decode cX0_init 28 = .ok (.bipush 24, 2) := by decide +kernel
theorem dX0_init_30 : decode cX0_init 30 = .ok (.newarray .int, 2) := by decide +kernel
theorem dX0_init_32 : decode cX0_init 32 = .ok (.putfield 25, 3) := by decide +kernel
theorem dX0_init_35 : decode cX0_init 35 = .ok (.aload_n 0, 1) := by decide +kernel
theorem dX0_init_36 : decode cX0_init 36 = .ok (.bipush 100, 2) := by decide +kernel
theorem dX0_init_38 : decode cX0_init 38 = .ok (.newarray .int, 2) := by decide +kernel
theorem dX0_init_40 : decode cX0_init 40 = .ok (.putfield 28, 3) := by decide +kernel
theorem dX0_init_43 : decode cX0_init 43 = .ok (.aload_n 0, 1) := by decide +kernel
theorem dX0_init_44 : decode cX0_init 44 = .ok (.bipush 24, 2) := by decide +kernel
theorem dX0_init_46 : decode cX0_init 46 = .ok (.newarray .int, 2) := by decide +kernel
theorem dX0_init_48 : decode cX0_init 48 = .ok (.putfield 31, 3) := by decide +kernel
theorem dX0_init_51 : decode cX0_init 51 = .ok (.aload_n 0, 1) := by decide +kernel
theorem dX0_init_52 : decode cX0_init 52 = .ok (.aload_n 1, 1) := by decide +kernel
theorem dX0_init_53 : decode cX0_init 53 = .ok (.putfield 34, 3) := by decide +kernel
theorem dX0_init_56 : decode cX0_init 56 = .ok (.aload_n 0, 1) := by decide +kernel
theorem dX0_init_57 : decode cX0_init 57 = .ok (.aload_n 2, 1) := by decide +kernel
theorem dX0_init_58 : decode cX0_init 58 = .ok (.putfield 38, 3) := by decide +kernel
theorem dX0_init_61 : decode cX0_init 61 = .ok (.return_, 1) := by decide +kernel
theorem dX1_init_0 : decode cX1_init 0 = .ok (.aload_n 0, 1) := by decide +kernel
theorem dX1_init_1 : decode cX1_init 1 = .ok (.invokespecial 3, 3) := by decide +kernel
theorem dX1_init_4 : decode cX1_init 4 = .ok (.aload_n 0, 1) := by decide +kernel
theorem dX1_init_5 : decode cX1_init 5 = .ok (.bipush 16, 2) := by decide +kernel
theorem dX1_init_7 : decode cX1_init 7 = .ok (.newarray .boolean, 2) := by decide +kernel
theorem dX1_init_9 : decode cX1_init 9 = .ok (.putfield 9, 3) := by decide +kernel
theorem dX1_init_12 : decode cX1_init 12 = .ok (.aload_n 0, 1) := by decide +kernel
theorem dX1_init_13 : decode cX1_init 13 = .ok (.bipush 16, 2) := by decide +kernel
theorem dX1_init_15 : decode cX1_init 15 = .ok (.newarray .long, 2) := by decide +kernel
theorem dX1_init_17 : decode cX1_init 17 = .ok (.putfield 15, 3) := by decide +kernel
theorem dX1_init_20 : decode cX1_init 20 = .ok (.aload_n 0, 1) := by decide +kernel
theorem dX1_init_21 : decode cX1_init 21 = .ok (.bipush 16, 2) := by decide +kernel
theorem dX1_init_23 : decode cX1_init 23 = .ok (.newarray .long, 2) := by decide +kernel
theorem dX1_init_25 : decode cX1_init 25 = .ok (.putfield 19, 3) := by decide +kernel
theorem dX1_init_28 : decode cX1_init 28 = .ok (.aload_n 0, 1) := by decide +kernel
theorem dX1_init_29 : decode cX1_init 29 = .ok (.bipush 16, 2) := by decide +kernel
theorem dX1_init_31 : decode cX1_init 31 = .ok (.newarray .long, 2) := by decide +kernel
theorem dX1_init_33 : decode cX1_init 33 = .ok (.putfield 22, 3) := by decide +kernel
theorem dX1_init_36 : decode cX1_init 36 = .ok (.aload_n 0, 1) := by decide +kernel
theorem dX1_init_37 : decode cX1_init 37 = .ok (.bipush 16, 2) := by decide +kernel
theorem dX1_init_39 : decode cX1_init 39 = .ok (.newarray .long, 2) := by decide +kernel
theorem dX1_init_41 : decode cX1_init 41 = .ok (.putfield 25, 3) := by decide +kernel
theorem dX1_init_44 : decode cX1_init 44 = .ok (.aload_n 0, 1) := by decide +kernel
theorem dX1_init_45 : decode cX1_init 45 = .ok (.bipush 16, 2) := by decide +kernel
theorem dX1_init_47 : decode cX1_init 47 = .ok (.newarray .long, 2) := by decide +kernel
theorem dX1_init_49 : decode cX1_init 49 = .ok (.putfield 28, 3) := by decide +kernel
theorem dX1_init_52 : decode cX1_init 52 = .ok (.aload_n 0, 1) := by decide +kernel
theorem dX1_init_53 : decode cX1_init 53 = .ok (.bipush 16, 2) := by decide +kernel
theorem dX1_init_55 : decode cX1_init 55 = .ok (.newarray .long, 2) := by decide +kernel
theorem dX1_init_57 : decode cX1_init 57 = .ok (.putfield 31, 3) := by decide +kernel
theorem dX1_init_60 : decode cX1_init 60 = .ok (.aload_n 0, 1) := by decide +kernel
theorem dX1_init_61 : decode cX1_init 61 = .ok (.bipush 16, 2) := by decide +kernel
theorem dX1_init_63 : decode cX1_init 63 = .ok (.newarray .long, 2) := by decide +kernel
theorem dX1_init_65 : decode cX1_init 65 = .ok (.putfield 34, 3) := by decide +kernel
theorem dX1_init_68 : decode cX1_init 68 = .ok (.aload_n 0, 1) := by decide +kernel
theorem dX1_init_69 : decode cX1_init 69 = .ok (.bipush 16, 2) := by decide +kernel
theorem dX1_init_71 : decode cX1_init 71 = .ok (.newarray .long, 2) := by decide +kernel
theorem dX1_init_73 : decode cX1_init 73 = .ok (.putfield 37, 3) := by decide +kernel
theorem dX1_init_76 : decode cX1_init 76 = .ok (.aload_n 0, 1) := by decide +kernel
theorem dX1_init_77 : decode cX1_init 77 = .ok (.bipush 16, 2) := by decide +kernel
theorem dX1_init_79 : decode cX1_init 79 = .ok (.newarray .long, 2) := by decide +kernel
theorem dX1_init_81 : decode cX1_init 81 = .ok (.putfield 40, 3) := by decide +kernel
theorem dX1_init_84 : decode cX1_init 84 = .ok (.aload_n 0, 1) := by decide +kernel
theorem dX1_init_85 : decode cX1_init 85 = .ok (.aload_n 1, 1) := by decide +kernel
theorem dX1_init_86 : decode cX1_init 86 = .ok (.putfield 43, 3) := by decide +kernel
theorem dX1_init_89 : decode cX1_init 89 = .ok (.return_, 1) := by decide +kernel
theorem dX2_init_0 : decode cX2_init 0 = .ok (.aload_n 0, 1) := by decide +kernel
theorem dX2_init_1 : decode cX2_init 1 = .ok (.invokespecial 3, 3) := by decide +kernel
theorem dX2_init_4 : decode cX2_init 4 = .ok (.aload_n 0, 1) := by decide +kernel
theorem dX2_init_5 : decode cX2_init 5 = .ok (.iconst 0, 1) := by decide +kernel
theorem dX2_init_6 : decode cX2_init 6 = .ok (.putfield 9, 3) := by decide +kernel
theorem dX2_init_9 : decode cX2_init 9 = .ok (.aload_n 0, 1) := by decide +kernel
theorem dX2_init_10 : decode cX2_init 10 = .ok (.iconst 0, 1) := by decide +kernel
theorem dX2_init_11 : decode cX2_init 11 = .ok (.putfield 15, 3) := by decide +kernel
theorem dX2_init_14 : decode cX2_init 14 = .ok (.aload_n 0, 1) := by decide +kernel
theorem dX2_init_15 : decode cX2_init 15 = .ok (.bipush 16, 2) := by decide +kernel
theorem dX2_init_17 : decode cX2_init 17 = .ok (.newarray .int, 2) := by decide +kernel
theorem dX2_init_19 : decode cX2_init 19 = .ok (.putfield 18, 3) := by decide +kernel
theorem dX2_init_22 : decode cX2_init 22 = .ok (.aload_n 0, 1) := by decide +kernel
theorem dX2_init_23 : decode cX2_init 23 = .ok (.bipush 80, 2) := by decide +kernel
theorem dX2_init_25 : decode cX2_init 25 = .ok (.newarray .int, 2) := by decide +kernel
theorem dX2_init_27 : decode cX2_init 27 = .ok (.putfield 22, 3) := by decide +kernel
theorem dX2_init_30 : decode cX2_init 30 = .ok (.aload_n 0, 1) := by decide +kernel
theorem dX2_init_31 : decode cX2_init 31 = .ok (.bipush 80, 2) := by decide +kernel
theorem dX2_init_33 : decode cX2_init 33 = .ok (.newarray .int, 2) := by decide +kernel
theorem dX2_init_35 : decode cX2_init 35 = .ok (.putfield 25, 3) := by decide +kernel
theorem dX2_init_38 : decode cX2_init 38 = .ok (.aload_n 0, 1) := by decide +kernel
theorem dX2_init_39 : decode cX2_init 39 = .ok (.bipush 80, 2) := by decide +kernel
theorem dX2_init_41 : decode cX2_init 41 = .ok (.newarray .int, 2) := by decide +kernel
theorem dX2_init_43 : decode cX2_init 43 = .ok (.putfield 28, 3) := by decide +kernel
theorem dX2_init_46 : decode cX2_init 46 = .ok (.aload_n 0, 1) := by decide +kernel
theorem dX2_init_47 : decode cX2_init 47 = .ok (.bipush 16, 2) := by decide +kernel
theorem dX2_init_49 : decode cX2_init 49 = .ok (.newarray .int, 2) := by decide +kernel
theorem dX2_init_51 : decode cX2_init 51 = .ok (.putfield 31, 3) := by decide +kernel
theorem dX2_init_54 : decode cX2_init 54 = .ok (.aload_n 0, 1) := by decide +kernel
theorem dX2_init_55 : decode cX2_init 55 = .ok (.bipush 16, 2) := by decide +kernel
theorem dX2_init_57 : decode cX2_init 57 = .ok (.newarray .int, 2) := by decide +kernel
theorem dX2_init_59 : decode cX2_init 59 = .ok (.putfield 34, 3) := by decide +kernel
theorem dX2_init_62 : decode cX2_init 62 = .ok (.aload_n 0, 1) := by decide +kernel
theorem dX2_init_63 : decode cX2_init 63 = .ok (.bipush 16, 2) := by decide +kernel
theorem dX2_init_65 : decode cX2_init 65 = .ok (.newarray .int, 2) := by decide +kernel
theorem dX2_init_67 : decode cX2_init 67 = .ok (.putfield 37, 3) := by decide +kernel
theorem dX2_init_70 : decode cX2_init 70 = .ok (.aload_n 0, 1) := by decide +kernel
theorem dX2_init_71 : decode cX2_init 71 = .ok (.bipush 24, 2) := by decide +kernel
theorem dX2_init_73 : decode cX2_init 73 = .ok (.newarray .int, 2) := by decide +kernel
theorem dX2_init_75 : decode cX2_init 75 = .ok (.putfield 40, 3) := by decide +kernel
theorem dX2_init_78 : decode cX2_init 78 = .ok (.aload_n 0, 1) := by decide +kernel
theorem dX2_init_79 : decode cX2_init 79 = .ok (.bipush 24, 2) := by decide +kernel
theorem dX2_init_81 : decode cX2_init 81 = .ok (.newarray .int, 2) := by decide +kernel
theorem dX2_init_83 : decode cX2_init 83 = .ok (.putfield 43, 3) := by decide +kernel
theorem dX2_init_86 : decode cX2_init 86 = .ok (.aload_n 0, 1) := by decide +kernel
theorem dX2_init_87 : decode cX2_init 87 = .ok (.bipush 24, 2) := by decide +kernel
theorem dX2_init_89 : decode cX2_init 89 = .ok (.newarray .int, 2) := by decide +kernel
theorem dX2_init_91 : decode cX2_init 91 = .ok (.putfield 46, 3) := by decide +kernel
theorem dX2_init_94 : decode cX2_init 94 = .ok (.aload_n 0, 1) := by decide +kernel
theorem dX2_init_95 : decode cX2_init 95 = .ok (.bipush 6, 2) := by decide +kernel
theorem dX2_init_97 : decode cX2_init 97 = .ok (.newarray .long, 2) := by decide +kernel
theorem dX2_init_99 : decode cX2_init 99 = .ok (.putfield 49, 3) := by decide +kernel
theorem dX2_init_102 : decode cX2_init 102 = .ok (.return_, 1) := by decide +kernel
set_option maxRecDepth 20000 in
theorem ggX3_init_X2_init : GoodIn wsX3_init wsX2_init := goodIn_r _ [19, 20, 2, 3, 21, 22, 23, 24, 25, 26, 27, 28, 29, 30, 31, 32, 33, 34, 35, 65, 66, 67, 68, 69, 70, 71, 72, 73, 74, 75, 76, 77] (by decide +kernel) (by decide +kernel)
set_option maxRecDepth 20000 in
theorem gX3_init_X2_init_n11 : GoodIn wsX3_init (wsX2_init) := ggX3_init_X2_init
set_option maxRecDepth 20000 in
theorem ggX3_init_X1_init : GoodIn wsX3_init wsX1_init := goodIn_r _ [38, 39, 2, 3, 40, 41, 34, 42, 43, 44, 45, 46, 47, 48, 49, 50, 51, 78, 79, 80, 81, 82, 83, 84, 85, 86, 87, 88] (by decide +kernel) (by decide +kernel)
set_option maxRecDepth 20000 in
theorem gX3_init_X1_init : GoodIn wsX3_init (wsX1_init) := ggX3_init_X1_init
set_option maxRecDepth 20000 in
theorem ggX3_init_X0_init : GoodIn wsX3_init wsX0_init := goodIn_r _ [54, 55, 2, 3, 56, 57, 58, 23, 59, 60, 61, 62, 63, 64, 94, 95, 96, 97, 98, 99, 100, 101, 102] (by decide +kernel) (by decide +kernel)
set_option maxRecDepth 20000 in
theorem gX3_init_X0_init : GoodIn wsX3_init (wsX0_init) := ggX3_init_X0_init
theorem dX3_init_0 : decode cX3_init 0 = .ok (.aload_n 0, 1) := by decide +kernel
theorem dX3_init_1 : decode cX3_init 1 = .ok (.invokespecial 3, 3) := by decide +kernel
theorem dX3_init_4 : decode cX3_init 4 = .ok (.new 9, 3) := by decide +kernel
theorem dX3_init_7 : decode cX3_init 7 = .ok (.dup, 1) := by decide +kernel
theorem dX3_init_8 : decode cX3_init 8 = .ok (.invokespecial 11, 3) := by decide +kernel
theorem dX3_init_11 : decode cX3_init 11 = .ok (.astore_n 1, 1) := by decide +kernel
theorem dX3_init_12 : decode cX3_init 12 = .ok (.new 12, 3) := by decide +kernel
theorem dX3_init_15 : decode cX3_init 15 = .ok (.dup, 1) := by decide +kernel
theorem dX3_init_16 : decode cX3_init 16 = .ok (.aload_n 1, 1) := by decide +kernel
theorem dX3_init_17 : decode cX3_init 17 = .ok (.invokespecial 14, 3) := by decide +kernel
theorem dX3_init_20 : decode cX3_init 20 = .ok (.astore_n 2, 1) := by decide +kernel
theorem dX3_init_21 : decode cX3_init 21 = .ok (.aload_n 0, 1) := by decide +kernel
theorem dX3_init_22 : decode cX3_init 22 = .ok (.aload_n 1, 1) := by decide +kernel
theorem dX3_init_23 : decode cX3_init 23 = .ok (.putfield 17, 3) := by decide +kernel
theorem dX3_init_26 : decode cX3_init 26 = .ok (.aload_n 0, 1) := by decide +kernel
theorem dX3_init_27 : decode cX3_init 27 = .ok (.aload_n 2, 1) := by decide +kernel
theorem dX3_init_28 : decode cX3_init 28 = .ok (.putfield 21, 3) := by decide +kernel
theorem dX3_init_31 : decode cX3_init 31 = .ok (.aload_n 0, 1) := by decide +kernel
theorem dX3_init_32 : decode cX3_init 32 = .ok (.new 25, 3) := by decide +kernel
theorem dX3_init_35 : decode cX3_init 35 = .ok (.dup, 1) := by decide +kernel
theorem dX3_init_36 : decode cX3_init 36 = .ok (.aload_n 1, 1) := by decide +kernel
theorem dX3_init_37 : decode cX3_init 37 = .ok (.aload_n 2, 1) := by decide +kernel
theorem dX3_init_38 : decode cX3_init 38 = .ok (.invokespecial 27, 3) := by decide +kernel
theorem dX3_init_41 : decode cX3_init 41 = .ok (.putfield 30, 3) := by decide +kernel
theorem dX3_init_44 : decode cX3_init 44 = .ok (.aload_n 0, 1) := by decide +kernel
theorem dX3_init_45 : decode cX3_init 45 = .ok (.iconst 0, 1) := by decide +kernel
theorem dX3_init_46 : decode cX3_init 46 = .ok (.putfield 34, 3) := by decide +kernel
theorem dX3_init_49 : decode cX3_init 49 = .ok (.aload_n 0, 1) := by decide +kernel
theorem dX3_init_50 : decode cX3_init 50 = .ok (.iconst 0, 1) := by decide +kernel
theorem dX3_init_51 : decode cX3_init 51 = .ok (.putfield 38, 3) := by decide +kernel
theorem dX3_init_54 : decode cX3_init 54 = .ok (.return_, 1) := by decide +kernel
theorem dX3_block_0 : decode cX3_block 0 = .ok (.aload_n 0, 1) := by decide +kernel
theorem dX3_block_1 : decode cX3_block 1 = .ok (.getfield 17, 3) := by decide +kernel
theorem dX3_block_4 : decode cX3_block 4 = .ok (.getfield 42, 3) := by decide +kernel
theorem dX3_block_7 : decode cX3_block 7 = .ok (.bipush 16, 2) := by decide +kernel
theorem dX3_block_9 : decode cX3_block 9 = .ok (.if_icmp .lt 13, 3) := by decide +kernel
theorem dX3_block_12 : decode cX3_block 12 = .ok (.new 45, 3) := by decide +kernel
theorem dX3_block_15 : decode cX3_block 15 = .ok (.dup, 1) := by decide +kernel
theorem dX3_block_16 : decode cX3_block 16 = .ok (.ldc 47, 2) := by decide +kernel
theorem dX3_block_18 : decode cX3_block 18 = .ok (.invokespecial 49, 3) := by decide +kernel
theorem dX3_block_21 : decode cX3_block 21 = .ok (.athrow, 1) := by decide +kernel
theorem dX3_block_22 : decode cX3_block 22 = .ok (.aload_n 0, 1) := by decide +kernel
theorem dX3_block_23 : decode cX3_block 23 = .ok (.iconst 0, 1) := by decide +kernel
theorem dX3_block_24 : decode cX3_block 24 = .ok (.putfield 34, 3) := by decide +kernel
theorem dX3_block_27 : decode cX3_block 27 = .ok (.aload_n 0, 1) := by decide +kernel
theorem dX3_block_28 : decode cX3_block 28 = .ok (.getfield 17, 3) := by decide +kernel
theorem dX3_block_31 : decode cX3_block 31 = .ok (.invokevirtual 52, 3) := by decide +kernel
theorem dX3_block_34 : decode cX3_block 34 = .ok (.ireturn, 1) := by decide +kernel
theorem dX3_outs_0 : decode cX3_outs 0 = .ok (.aload_n 0, 1) := by decide +kernel
theorem dX3_outs_1 : decode cX3_outs 1 = .ok (.getfield 30, 3) := by decide +kernel
theorem dX3_outs_4 : decode cX3_outs 4 = .ok (.getfield 149, 3) := by decide +kernel
theorem dX3_outs_7 : decode cX3_outs 7 = .ok (.ireturn, 1) := by decide +kernel
theorem dX3_computed_0 : decode cX3_computed 0 = .ok (.iload_n 1, 1) := by decide +kernel
theorem dX3_computed_1 : decode cX3_computed 1 = .ok (.ifCond .lt 9, 3) := by decide +kernel
theorem dX3_computed_4 : decode cX3_computed 4 = .ok (.iload_n 1, 1) := by decide +kernel
theorem dX3_computed_5 : decode cX3_computed 5 = .ok (.bipush 24, 2) := by decide +kernel
theorem dX3_computed_7 : decode cX3_computed 7 = .ok (.if_icmp .lt 5, 3) := by decide +kernel
theorem dX3_computed_10 : decode cX3_computed 10 = .ok (.iconst 0, 1) := by decide +kernel
theorem dX3_computed_11 : decode cX3_computed 11 = .ok (.ireturn, 1) := by decide +kernel
theorem dX3_computed_12 : decode cX3_computed 12 = .ok (.aload_n 0, 1) := by decide +kernel
theorem dX3_computed_13 : decode cX3_computed 13 = .ok (.getfield 30, 3) := by decide +kernel
theorem dX3_computed_16 : decode cX3_computed 16 = .ok (.getfield 166, 3) := by decide +kernel
theorem dX3_computed_19 : decode cX3_computed 19 = .ok (.iload_n 1, 1) := by decide +kernel
theorem dX3_computed_20 : decode cX3_computed 20 = .ok (.iaload, 1) := by decide +kernel
theorem dX3_computed_21 : decode cX3_computed 21 = .ok (.ireturn, 1) := by decide +kernel
set_option maxRecDepth 20000 in
theorem ggL_block_X3_block : GoodIn wsL_block wsX3_block := goodIn_ca (goodIn_r _ [6, 7, 8, 9, 10, 11, 12, 13, 14, 15, 16, 17, 18, 19, 20, 21, 22, 23, 24, 25, 26, 27, 28, 29] (by decide +kernel) (by decide +kernel)) (goodIn_sub (fun _ h => List.mem_cons_of_mem _ (List.mem_append_right _ h)) (by decide +kernel))
set_option maxRecDepth 20000 in
theorem gL_block_X3_block : GoodIn wsL_block (wsV RL 7 RX3 yX3_block wsX3_block) := goodIn_app (goodIn_of _ (by decide +kernel)) ggL_block_X3_block
theorem dL_block_0 : decode cL_block 0 = .ok (.aload_n 1, 1) := by decide +kernel
theorem dL_block_1 : decode cL_block 1 = .ok (.iconst 0, 1) := by decide +kernel
theorem dL_block_2 : decode cL_block 2 = .ok (.aload_n 0, 1) := by decide +kernel
theorem dL_block_3 : decode cL_block 3 = .ok (.invokevirtual 7, 3) := by decide +kernel
theorem dL_block_6 : decode cL_block 6 = .ok (.i2l, 1) := by decide +kernel
theorem dL_block_7 : decode cL_block 7 = .ok (.lastore, 1) := by decide +kernel
theorem dL_block_8 : decode cL_block 8 = .ok (.goto 6, 3) := by decide +kernel
theorem dL_block_11 : decode cL_block 11 = .ok (.astore_n 2, 1) := by decide +kernel
theorem dL_block_12 : decode cL_block 12 = .ok (.iconst 1, 1) := by decide +kernel
theorem dL_block_13 : decode cL_block 13 = .ok (.ireturn, 1) := by decide +kernel
theorem dL_block_14 : decode cL_block 14 = .ok (.iconst 0, 1) := by decide +kernel
theorem dL_block_15 : decode cL_block 15 = .ok (.ireturn, 1) := by decide +kernel
set_option maxRecDepth 20000 in
theorem ggL_law_X3_init : GoodIn wsL_law wsX3_init := goodIn_r _ [6, 7, 8, 9, 10, 11, 12, 13, 14, 15, 16, 17, 18, 19, 20, 21, 22, 23, 24, 25, 26, 27, 28, 29, 30, 31, 32, 33, 34, 35, 36, 37, 38, 39, 3, 40, 41, 42, 43, 44, 45, 46, 47, 48, 49, 50, 51, 52, 53, 54, 55, 56, 57, 58, 59, 60, 61, 62, 63, 64, 65, 66, 67, 68, 69, 97, 98, 99, 100, 101, 102, 103, 104, 105, 106, 107, 108, 109, 110, 111, 112, 113, 114, 115, 116, 117, 118, 119, 120, 92, 93, 94, 95, 96, 121, 122, 123, 124, 125, 126, 127, 128, 129] (by decide +kernel) (by decide +kernel)
set_option maxRecDepth 20000 in
theorem gL_law_X3_init : GoodIn wsL_law (wsX3_init) := ggL_law_X3_init
set_option maxRecDepth 20000 in
theorem ggL_law_L_block : GoodIn wsL_law wsL_block := goodIn_ca (goodIn_r _ [73, 74, 75, 76, 77, 2, 78, 79, 80, 16, 81, 22, 92, 93, 94, 95, 96, 97, 98, 99, 100, 101, 102, 103, 104, 105, 106, 107, 108, 109] (by decide +kernel) (by decide +kernel)) (goodIn_sub (fun _ h => List.mem_append_right _ h) (by decide +kernel))
set_option maxRecDepth 20000 in
theorem gL_law_L_block : GoodIn wsL_law (va_wsS RL 62 yL_block wsL_block) := goodIn_app (goodIn_of _ (by decide +kernel)) ggL_law_L_block
set_option maxRecDepth 20000 in
theorem ggL_law_X3_outs : GoodIn wsL_law wsX3_outs := goodIn_r _ [85, 21, 86, 92, 93, 94, 95, 96, 121, 122, 123, 124, 125, 126, 127, 128, 129] (by decide +kernel) (by decide +kernel)
set_option maxRecDepth 20000 in
theorem gL_law_X3_outs : GoodIn wsL_law (wsV RL 96 RX3 yX3_outs wsX3_outs) := goodIn_app (goodIn_of _ (by decide +kernel)) ggL_law_X3_outs
set_option maxRecDepth 20000 in
theorem ggL_law_X3_computed : GoodIn wsL_law wsX3_computed := goodIn_r _ [90, 21, 91, 92, 93, 94, 95, 96, 121, 122, 123, 124, 125, 126, 127, 128, 129] (by decide +kernel) (by decide +kernel)
set_option maxRecDepth 20000 in
theorem gL_law_X3_computed : GoodIn wsL_law (wsV RL 107 RX3 yX3_computed wsX3_computed) := goodIn_app (goodIn_of _ (by decide +kernel)) ggL_law_X3_computed
theorem dL_law_0 : decode cL_law 0 = .ok (.new 8, 3) := by decide +kernel
theorem dL_law_3 : decode cL_law 3 = .ok (.dup, 1) := by decide +kernel
theorem dL_law_4 : decode cL_law 4 = .ok (.invokespecial 58, 3) := by decide +kernel
theorem dL_law_7 : decode cL_law 7 = .ok (.astore_n 1, 1) := by decide +kernel
theorem dL_law_8 : decode cL_law 8 = .ok (.new 59, 3) := by decide +kernel
theorem dL_law_11 : decode cL_law 11 = .ok (.dup, 1) := by decide +kernel
theorem dL_law_12 : decode cL_law 12 = .ok (.invokespecial 61, 3) := by decide +kernel
theorem dL_law_15 : decode cL_law 15 = .ok (.astore_n 2, 1) := by decide +kernel
theorem dL_law_16 : decode cL_law 16 = .ok (.iconst 1, 1) := by decide +kernel
theorem dL_law_17 : decode cL_law 17 = .ok (.newarray .long, 2) := by decide +kernel
theorem dL_law_19 : decode cL_law 19 = .ok (.astore_n 3, 1) := by decide +kernel
theorem dL_law_20 : decode cL_law 20 = .ok (.iconst 0, 1) := by decide +kernel
theorem dL_law_21 : decode cL_law 21 = .ok (.istore 4, 2) := by decide +kernel
theorem dL_law_23 : decode cL_law 23 = .ok (.iload 4, 2) := by decide +kernel
theorem dL_law_25 : decode cL_law 25 = .ok (.aload_n 0, 1) := by decide +kernel
theorem dL_law_26 : decode cL_law 26 = .ok (.arraylength, 1) := by decide +kernel
theorem dL_law_27 : decode cL_law 27 = .ok (.bipush 6, 2) := by decide +kernel
theorem dL_law_29 : decode cL_law 29 = .ok (.isub, 1) := by decide +kernel
theorem dL_law_30 : decode cL_law 30 = .ok (.if_icmp .gt 908, 3) := by decide +kernel
theorem dL_law_33 : decode cL_law 33 = .ok (.aload_n 0, 1) := by decide +kernel
theorem dL_law_34 : decode cL_law 34 = .ok (.iload 4, 2) := by decide +kernel
theorem dL_law_36 : decode cL_law 36 = .ok (.iaload, 1) := by decide +kernel
theorem dL_law_37 : decode cL_law 37 = .ok (.bipush 15, 2) := by decide +kernel
theorem dL_law_39 : decode cL_law 39 = .ok (.iand, 1) := by decide +kernel
theorem dL_law_40 : decode cL_law 40 = .ok (.tableswitch 892 0 12 #[68, 112, 216, 320, 364, 431, 498, 578, 686, 699, 755, 811, 836], 68) := by decide +kernel
theorem dL_law_108 : decode cL_law 108 = .ok (.aload_n 1, 1) := by decide +kernel
theorem dL_law_109 : decode cL_law 109 = .ok (.aload_n 3, 1) := by decide +kernel
theorem dL_law_110 : decode cL_law 110 = .ok (.invokestatic 62, 3) := by decide +kernel
theorem dL_law_113 : decode cL_law 113 = .ok (.istore 5, 2) := by decide +kernel
theorem dL_law_115 : decode cL_law 115 = .ok (.aload_n 2, 1) := by decide +kernel
theorem dL_law_116 : decode cL_law 116 = .ok (.invokevirtual 67, 3) := by decide +kernel
theorem dL_law_119 : decode cL_law 119 = .ok (.istore 6, 2) := by decide +kernel
theorem dL_law_121 : decode cL_law 121 = .ok (.aload_n 2, 1) := by decide +kernel
theorem dL_law_122 : decode cL_law 122 = .ok (.invokevirtual 68, 3) := by decide +kernel
theorem dL_law_125 : decode cL_law 125 = .ok (.iload 5, 2) := by decide +kernel
theorem dL_law_127 : decode cL_law 127 = .ok (.if_icmp .eq 5, 3) := by decide +kernel
theorem dL_law_130 : decode cL_law 130 = .ok (.iconst 0, 1) := by decide +kernel
theorem dL_law_131 : decode cL_law 131 = .ok (.ireturn, 1) := by decide +kernel
theorem dL_law_132 : decode cL_law 132 = .ok (.iload 5, 2) := by decide +kernel
theorem dL_law_134 : decode cL_law 134 = .ok (.ifCond .ne 15, 3) := by decide +kernel
theorem dL_law_137 : decode cL_law 137 = .ok (.aload_n 3, 1) := by decide +kernel
theorem dL_law_138 : decode cL_law 138 = .ok (.iconst 0, 1) := by decide +kernel
theorem dL_law_139 : decode cL_law 139 = .ok (.laload, 1) := by decide +kernel
theorem dL_law_140 : decode cL_law 140 = .ok (.iload 6, 2) := by decide +kernel
theorem dL_law_142 : decode cL_law 142 = .ok (.i2l, 1) := by decide +kernel
theorem dL_law_143 : decode cL_law 143 = .ok (.lcmp, 1) := by decide +kernel
theorem dL_law_144 : decode cL_law 144 = .ok (.ifCond .eq 5, 3) := by decide +kernel
theorem dL_law_147 : decode cL_law 147 = .ok (.iconst 0, 1) := by decide +kernel
theorem dL_law_148 : decode cL_law 148 = .ok (.ireturn, 1) := by decide +kernel
theorem dL_law_149 : decode cL_law 149 = .ok (.goto 783, 3) := by decide +kernel
theorem dL_law_152 : decode cL_law 152 = .ok (.aload_n 1, 1) := by decide +kernel
theorem dL_law_153 : decode cL_law 153 = .ok (.aload_n 0, 1) := by decide +kernel
theorem dL_law_154 : decode cL_law 154 = .ok (.iload 4, 2) := by decide +kernel
theorem dL_law_156 : decode cL_law 156 = .ok (.iconst 1, 1) := by decide +kernel
theorem dL_law_157 : decode cL_law 157 = .ok (.iadd, 1) := by decide +kernel
theorem dL_law_158 : decode cL_law 158 = .ok (.iaload, 1) := by decide +kernel
theorem dL_law_159 : decode cL_law 159 = .ok (.aload_n 0, 1) := by decide +kernel
theorem dL_law_160 : decode cL_law 160 = .ok (.iload 4, 2) := by decide +kernel
theorem dL_law_162 : decode cL_law 162 = .ok (.iconst 2, 1) := by decide +kernel
theorem dL_law_163 : decode cL_law 163 = .ok (.iadd, 1) := by decide +kernel
theorem dL_law_164 : decode cL_law 164 = .ok (.iaload, 1) := by decide +kernel
theorem dL_law_165 : decode cL_law 165 = .ok (.aload_n 0, 1) := by decide +kernel
theorem dL_law_166 : decode cL_law 166 = .ok (.iload 4, 2) := by decide +kernel
theorem dL_law_168 : decode cL_law 168 = .ok (.iconst 3, 1) := by decide +kernel
theorem dL_law_169 : decode cL_law 169 = .ok (.iadd, 1) := by decide +kernel
theorem dL_law_170 : decode cL_law 170 = .ok (.iaload, 1) := by decide +kernel
theorem dL_law_171 : decode cL_law 171 = .ok (.aload_n 0, 1) := by decide +kernel
theorem dL_law_172 : decode cL_law 172 = .ok (.iload 4, 2) := by decide +kernel
theorem dL_law_174 : decode cL_law 174 = .ok (.iconst 4, 1) := by decide +kernel
theorem dL_law_175 : decode cL_law 175 = .ok (.iadd, 1) := by decide +kernel
theorem dL_law_176 : decode cL_law 176 = .ok (.iaload, 1) := by decide +kernel
theorem dL_law_177 : decode cL_law 177 = .ok (.aload_n 0, 1) := by decide +kernel
theorem dL_law_178 : decode cL_law 178 = .ok (.iload 4, 2) := by decide +kernel
theorem dL_law_180 : decode cL_law 180 = .ok (.iconst 5, 1) := by decide +kernel
theorem dL_law_181 : decode cL_law 181 = .ok (.iadd, 1) := by decide +kernel
theorem dL_law_182 : decode cL_law 182 = .ok (.iaload, 1) := by decide +kernel
theorem dL_law_183 : decode cL_law 183 = .ok (.aload_n 3, 1) := by decide +kernel
theorem dL_law_184 : decode cL_law 184 = .ok (.invokestatic 71, 3) := by decide +kernel
theorem dL_law_187 : decode cL_law 187 = .ok (.istore 5, 2) := by decide +kernel
theorem dL_law_189 : decode cL_law 189 = .ok (.aload_n 2, 1) := by decide +kernel
theorem dL_law_190 : decode cL_law 190 = .ok (.aload_n 0, 1) := by decide +kernel
theorem dL_law_191 : decode cL_law 191 = .ok (.iload 4, 2) := by decide +kernel
theorem dL_law_193 : decode cL_law 193 = .ok (.iconst 1, 1) := by decide +kernel
theorem dL_law_194 : decode cL_law 194 = .ok (.iadd, 1) := by decide +kernel
theorem dL_law_195 : decode cL_law 195 = .ok (.iaload, 1) := by decide +kernel
theorem dL_law_196 : decode cL_law 196 = .ok (.aload_n 0, 1) := by decide +kernel
theorem dL_law_197 : decode cL_law 197 = .ok (.iload 4, 2) := by decide +kernel
theorem dL_law_199 : decode cL_law 199 = .ok (.iconst 2, 1) := by decide +kernel
theorem dL_law_200 : decode cL_law 200 = .ok (.iadd, 1) := by decide +kernel
theorem dL_law_201 : decode cL_law 201 = .ok (.iaload, 1) := by decide +kernel
theorem dL_law_202 : decode cL_law 202 = .ok (.aload_n 0, 1) := by decide +kernel
theorem dL_law_203 : decode cL_law 203 = .ok (.iload 4, 2) := by decide +kernel
theorem dL_law_205 : decode cL_law 205 = .ok (.iconst 3, 1) := by decide +kernel
theorem dL_law_206 : decode cL_law 206 = .ok (.iadd, 1) := by decide +kernel
theorem dL_law_207 : decode cL_law 207 = .ok (.iaload, 1) := by decide +kernel
theorem dL_law_208 : decode cL_law 208 = .ok (.aload_n 0, 1) := by decide +kernel
theorem dL_law_209 : decode cL_law 209 = .ok (.iload 4, 2) := by decide +kernel
theorem dL_law_211 : decode cL_law 211 = .ok (.iconst 4, 1) := by decide +kernel
theorem dL_law_212 : decode cL_law 212 = .ok (.iadd, 1) := by decide +kernel
theorem dL_law_213 : decode cL_law 213 = .ok (.iaload, 1) := by decide +kernel
theorem dL_law_214 : decode cL_law 214 = .ok (.aload_n 0, 1) := by decide +kernel
theorem dL_law_215 : decode cL_law 215 = .ok (.iload 4, 2) := by decide +kernel
theorem dL_law_217 : decode cL_law 217 = .ok (.iconst 5, 1) := by decide +kernel
theorem dL_law_218 : decode cL_law 218 = .ok (.iadd, 1) := by decide +kernel
theorem dL_law_219 : decode cL_law 219 = .ok (.iaload, 1) := by decide +kernel
theorem dL_law_220 : decode cL_law 220 = .ok (.invokevirtual 74, 3) := by decide +kernel
theorem dL_law_223 : decode cL_law 223 = .ok (.istore 6, 2) := by decide +kernel
theorem dL_law_225 : decode cL_law 225 = .ok (.aload_n 2, 1) := by decide +kernel
theorem dL_law_226 : decode cL_law 226 = .ok (.invokevirtual 68, 3) := by decide +kernel
theorem dL_law_229 : decode cL_law 229 = .ok (.iload 5, 2) := by decide +kernel
theorem dL_law_231 : decode cL_law 231 = .ok (.if_icmp .eq 5, 3) := by decide +kernel
theorem dL_law_234 : decode cL_law 234 = .ok (.iconst 0, 1) := by decide +kernel
theorem dL_law_235 : decode cL_law 235 = .ok (.ireturn, 1) := by decide +kernel
theorem dL_law_236 : decode cL_law 236 = .ok (.iload 5, 2) := by decide +kernel
theorem dL_law_238 : decode cL_law 238 = .ok (.ifCond .ne 15, 3) := by decide +kernel
theorem dL_law_241 : decode cL_law 241 = .ok (.aload_n 3, 1) := by decide +kernel
theorem dL_law_242 : decode cL_law 242 = .ok (.iconst 0, 1) := by decide +kernel
theorem dL_law_243 : decode cL_law 243 = .ok (.laload, 1) := by decide +kernel
theorem dL_law_244 : decode cL_law 244 = .ok (.iload 6, 2) := by decide +kernel
theorem dL_law_246 : decode cL_law 246 = .ok (.i2l, 1) := by decide +kernel
theorem dL_law_247 : decode cL_law 247 = .ok (.lcmp, 1) := by decide +kernel
theorem dL_law_248 : decode cL_law 248 = .ok (.ifCond .eq 5, 3) := by decide +kernel
theorem dL_law_251 : decode cL_law 251 = .ok (.iconst 0, 1) := by decide +kernel
theorem dL_law_252 : decode cL_law 252 = .ok (.ireturn, 1) := by decide +kernel
theorem dL_law_253 : decode cL_law 253 = .ok (.goto 679, 3) := by decide +kernel
theorem dL_law_256 : decode cL_law 256 = .ok (.aload_n 1, 1) := by decide +kernel
theorem dL_law_257 : decode cL_law 257 = .ok (.aload_n 0, 1) := by decide +kernel
theorem dL_law_258 : decode cL_law 258 = .ok (.iload 4, 2) := by decide +kernel
theorem dL_law_260 : decode cL_law 260 = .ok (.iconst 1, 1) := by decide +kernel
theorem dL_law_261 : decode cL_law 261 = .ok (.iadd, 1) := by decide +kernel
theorem dL_law_262 : decode cL_law 262 = .ok (.iaload, 1) := by decide +kernel
theorem dL_law_263 : decode cL_law 263 = .ok (.aload_n 0, 1) := by decide +kernel
theorem dL_law_264 : decode cL_law 264 = .ok (.iload 4, 2) := by decide +kernel
theorem dL_law_266 : decode cL_law 266 = .ok (.iconst 2, 1) := by decide +kernel
theorem dL_law_267 : decode cL_law 267 = .ok (.iadd, 1) := by decide +kernel
theorem dL_law_268 : decode cL_law 268 = .ok (.iaload, 1) := by decide +kernel
theorem dL_law_269 : decode cL_law 269 = .ok (.aload_n 0, 1) := by decide +kernel
theorem dL_law_270 : decode cL_law 270 = .ok (.iload 4, 2) := by decide +kernel
theorem dL_law_272 : decode cL_law 272 = .ok (.iconst 3, 1) := by decide +kernel
theorem dL_law_273 : decode cL_law 273 = .ok (.iadd, 1) := by decide +kernel
theorem dL_law_274 : decode cL_law 274 = .ok (.iaload, 1) := by decide +kernel
theorem dL_law_275 : decode cL_law 275 = .ok (.aload_n 0, 1) := by decide +kernel
theorem dL_law_276 : decode cL_law 276 = .ok (.iload 4, 2) := by decide +kernel
theorem dL_law_278 : decode cL_law 278 = .ok (.iconst 4, 1) := by decide +kernel
theorem dL_law_279 : decode cL_law 279 = .ok (.iadd, 1) := by decide +kernel
theorem dL_law_280 : decode cL_law 280 = .ok (.iaload, 1) := by decide +kernel
theorem dL_law_281 : decode cL_law 281 = .ok (.aload_n 0, 1) := by decide +kernel
theorem dL_law_282 : decode cL_law 282 = .ok (.iload 4, 2) := by decide +kernel
theorem dL_law_284 : decode cL_law 284 = .ok (.iconst 5, 1) := by decide +kernel
theorem dL_law_285 : decode cL_law 285 = .ok (.iadd, 1) := by decide +kernel
theorem dL_law_286 : decode cL_law 286 = .ok (.iaload, 1) := by decide +kernel
theorem dL_law_287 : decode cL_law 287 = .ok (.aload_n 3, 1) := by decide +kernel
theorem dL_law_288 : decode cL_law 288 = .ok (.invokestatic 75, 3) := by decide +kernel
theorem dL_law_291 : decode cL_law 291 = .ok (.istore 5, 2) := by decide +kernel
theorem dL_law_293 : decode cL_law 293 = .ok (.aload_n 2, 1) := by decide +kernel
theorem dL_law_294 : decode cL_law 294 = .ok (.aload_n 0, 1) := by decide +kernel
theorem dL_law_295 : decode cL_law 295 = .ok (.iload 4, 2) := by decide +kernel
theorem dL_law_297 : decode cL_law 297 = .ok (.iconst 1, 1) := by decide +kernel
theorem dL_law_298 : decode cL_law 298 = .ok (.iadd, 1) := by decide +kernel
theorem dL_law_299 : decode cL_law 299 = .ok (.iaload, 1) := by decide +kernel
theorem dL_law_300 : decode cL_law 300 = .ok (.aload_n 0, 1) := by decide +kernel
theorem dL_law_301 : decode cL_law 301 = .ok (.iload 4, 2) := by decide +kernel
theorem dL_law_303 : decode cL_law 303 = .ok (.iconst 2, 1) := by decide +kernel
theorem dL_law_304 : decode cL_law 304 = .ok (.iadd, 1) := by decide +kernel
theorem dL_law_305 : decode cL_law 305 = .ok (.iaload, 1) := by decide +kernel
theorem dL_law_306 : decode cL_law 306 = .ok (.aload_n 0, 1) := by decide +kernel
theorem dL_law_307 : decode cL_law 307 = .ok (.iload 4, 2) := by decide +kernel
theorem dL_law_309 : decode cL_law 309 = .ok (.iconst 3, 1) := by decide +kernel
theorem dL_law_310 : decode cL_law 310 = .ok (.iadd, 1) := by decide +kernel
theorem dL_law_311 : decode cL_law 311 = .ok (.iaload, 1) := by decide +kernel
theorem dL_law_312 : decode cL_law 312 = .ok (.aload_n 0, 1) := by decide +kernel
theorem dL_law_313 : decode cL_law 313 = .ok (.iload 4, 2) := by decide +kernel
theorem dL_law_315 : decode cL_law 315 = .ok (.iconst 4, 1) := by decide +kernel
theorem dL_law_316 : decode cL_law 316 = .ok (.iadd, 1) := by decide +kernel
theorem dL_law_317 : decode cL_law 317 = .ok (.iaload, 1) := by decide +kernel
theorem dL_law_318 : decode cL_law 318 = .ok (.aload_n 0, 1) := by decide +kernel
theorem dL_law_319 : decode cL_law 319 = .ok (.iload 4, 2) := by decide +kernel
theorem dL_law_321 : decode cL_law 321 = .ok (.iconst 5, 1) := by decide +kernel
theorem dL_law_322 : decode cL_law 322 = .ok (.iadd, 1) := by decide +kernel
theorem dL_law_323 : decode cL_law 323 = .ok (.iaload, 1) := by decide +kernel
theorem dL_law_324 : decode cL_law 324 = .ok (.invokevirtual 77, 3) := by decide +kernel
theorem dL_law_327 : decode cL_law 327 = .ok (.istore 6, 2) := by decide +kernel
theorem dL_law_329 : decode cL_law 329 = .ok (.aload_n 2, 1) := by decide +kernel
theorem dL_law_330 : decode cL_law 330 = .ok (.invokevirtual 68, 3) := by decide +kernel
theorem dL_law_333 : decode cL_law 333 = .ok (.iload 5, 2) := by decide +kernel
theorem dL_law_335 : decode cL_law 335 = .ok (.if_icmp .eq 5, 3) := by decide +kernel
theorem dL_law_338 : decode cL_law 338 = .ok (.iconst 0, 1) := by decide +kernel
theorem dL_law_339 : decode cL_law 339 = .ok (.ireturn, 1) := by decide +kernel
theorem dL_law_340 : decode cL_law 340 = .ok (.iload 5, 2) := by decide +kernel
theorem dL_law_342 : decode cL_law 342 = .ok (.ifCond .ne 15, 3) := by decide +kernel
theorem dL_law_345 : decode cL_law 345 = .ok (.aload_n 3, 1) := by decide +kernel
theorem dL_law_346 : decode cL_law 346 = .ok (.iconst 0, 1) := by decide +kernel
theorem dL_law_347 : decode cL_law 347 = .ok (.laload, 1) := by decide +kernel
theorem dL_law_348 : decode cL_law 348 = .ok (.iload 6, 2) := by decide +kernel
theorem dL_law_350 : decode cL_law 350 = .ok (.i2l, 1) := by decide +kernel
theorem dL_law_351 : decode cL_law 351 = .ok (.lcmp, 1) := by decide +kernel
theorem dL_law_352 : decode cL_law 352 = .ok (.ifCond .eq 5, 3) := by decide +kernel
theorem dL_law_355 : decode cL_law 355 = .ok (.iconst 0, 1) := by decide +kernel
theorem dL_law_356 : decode cL_law 356 = .ok (.ireturn, 1) := by decide +kernel
theorem dL_law_357 : decode cL_law 357 = .ok (.goto 575, 3) := by decide +kernel
theorem dL_law_360 : decode cL_law 360 = .ok (.aload_n 1, 1) := by decide +kernel
theorem dL_law_361 : decode cL_law 361 = .ok (.aload_n 3, 1) := by decide +kernel
theorem dL_law_362 : decode cL_law 362 = .ok (.invokestatic 78, 3) := by decide +kernel
theorem dL_law_365 : decode cL_law 365 = .ok (.istore 5, 2) := by decide +kernel
theorem dL_law_367 : decode cL_law 367 = .ok (.aload_n 2, 1) := by decide +kernel
theorem dL_law_368 : decode cL_law 368 = .ok (.invokevirtual 80, 3) := by decide +kernel
theorem dL_law_371 : decode cL_law 371 = .ok (.istore 6, 2) := by decide +kernel
theorem dL_law_373 : decode cL_law 373 = .ok (.aload_n 2, 1) := by decide +kernel
theorem dL_law_374 : decode cL_law 374 = .ok (.invokevirtual 68, 3) := by decide +kernel
theorem dL_law_377 : decode cL_law 377 = .ok (.iload 5, 2) := by decide +kernel
theorem dL_law_379 : decode cL_law 379 = .ok (.if_icmp .eq 5, 3) := by decide +kernel
theorem dL_law_382 : decode cL_law 382 = .ok (.iconst 0, 1) := by decide +kernel
theorem dL_law_383 : decode cL_law 383 = .ok (.ireturn, 1) := by decide +kernel
theorem dL_law_384 : decode cL_law 384 = .ok (.iload 5, 2) := by decide +kernel
theorem dL_law_386 : decode cL_law 386 = .ok (.ifCond .ne 15, 3) := by decide +kernel
theorem dL_law_389 : decode cL_law 389 = .ok (.aload_n 3, 1) := by decide +kernel
theorem dL_law_390 : decode cL_law 390 = .ok (.iconst 0, 1) := by decide +kernel
theorem dL_law_391 : decode cL_law 391 = .ok (.laload, 1) := by decide +kernel
theorem dL_law_392 : decode cL_law 392 = .ok (.iload 6, 2) := by decide +kernel
theorem dL_law_394 : decode cL_law 394 = .ok (.i2l, 1) := by decide +kernel
theorem dL_law_395 : decode cL_law 395 = .ok (.lcmp, 1) := by decide +kernel
theorem dL_law_396 : decode cL_law 396 = .ok (.ifCond .eq 5, 3) := by decide +kernel
theorem dL_law_399 : decode cL_law 399 = .ok (.iconst 0, 1) := by decide +kernel
theorem dL_law_400 : decode cL_law 400 = .ok (.ireturn, 1) := by decide +kernel
theorem dL_law_401 : decode cL_law 401 = .ok (.goto 531, 3) := by decide +kernel
theorem dL_law_404 : decode cL_law 404 = .ok (.aload_n 1, 1) := by decide +kernel
theorem dL_law_405 : decode cL_law 405 = .ok (.aload_n 0, 1) := by decide +kernel
theorem dL_law_406 : decode cL_law 406 = .ok (.iload 4, 2) := by decide +kernel
theorem dL_law_408 : decode cL_law 408 = .ok (.iconst 1, 1) := by decide +kernel
theorem dL_law_409 : decode cL_law 409 = .ok (.iadd, 1) := by decide +kernel
theorem dL_law_410 : decode cL_law 410 = .ok (.iaload, 1) := by decide +kernel
theorem dL_law_411 : decode cL_law 411 = .ok (.aload_n 0, 1) := by decide +kernel
theorem dL_law_412 : decode cL_law 412 = .ok (.iload 4, 2) := by decide +kernel
theorem dL_law_414 : decode cL_law 414 = .ok (.iconst 2, 1) := by decide +kernel
theorem dL_law_415 : decode cL_law 415 = .ok (.iadd, 1) := by decide +kernel
theorem dL_law_416 : decode cL_law 416 = .ok (.iaload, 1) := by decide +kernel
theorem dL_law_417 : decode cL_law 417 = .ok (.aload_n 3, 1) := by decide +kernel
theorem dL_law_418 : decode cL_law 418 = .ok (.invokestatic 81, 3) := by decide +kernel
theorem dL_law_421 : decode cL_law 421 = .ok (.istore 5, 2) := by decide +kernel
theorem dL_law_423 : decode cL_law 423 = .ok (.aload_n 2, 1) := by decide +kernel
theorem dL_law_424 : decode cL_law 424 = .ok (.aload_n 0, 1) := by decide +kernel
theorem dL_law_425 : decode cL_law 425 = .ok (.iload 4, 2) := by decide +kernel
theorem dL_law_427 : decode cL_law 427 = .ok (.iconst 1, 1) := by decide +kernel
theorem dL_law_428 : decode cL_law 428 = .ok (.iadd, 1) := by decide +kernel
theorem dL_law_429 : decode cL_law 429 = .ok (.iaload, 1) := by decide +kernel
theorem dL_law_430 : decode cL_law 430 = .ok (.aload_n 0, 1) := by decide +kernel
theorem dL_law_431 : decode cL_law 431 = .ok (.iload 4, 2) := by decide +kernel
theorem dL_law_433 : decode cL_law 433 = .ok (.iconst 2, 1) := by decide +kernel
theorem dL_law_434 : decode cL_law 434 = .ok (.iadd, 1) := by decide +kernel
theorem dL_law_435 : decode cL_law 435 = .ok (.iaload, 1) := by decide +kernel
theorem dL_law_436 : decode cL_law 436 = .ok (.invokevirtual 84, 3) := by decide +kernel
theorem dL_law_439 : decode cL_law 439 = .ok (.lstore 6, 2) := by decide +kernel
theorem dL_law_441 : decode cL_law 441 = .ok (.aload_n 2, 1) := by decide +kernel
theorem dL_law_442 : decode cL_law 442 = .ok (.invokevirtual 68, 3) := by decide +kernel
theorem dL_law_445 : decode cL_law 445 = .ok (.iload 5, 2) := by decide +kernel
theorem dL_law_447 : decode cL_law 447 = .ok (.if_icmp .eq 5, 3) := by decide +kernel
theorem dL_law_450 : decode cL_law 450 = .ok (.iconst 0, 1) := by decide +kernel
theorem dL_law_451 : decode cL_law 451 = .ok (.ireturn, 1) := by decide +kernel
theorem dL_law_452 : decode cL_law 452 = .ok (.iload 5, 2) := by decide +kernel
theorem dL_law_454 : decode cL_law 454 = .ok (.ifCond .ne 14, 3) := by decide +kernel
theorem dL_law_457 : decode cL_law 457 = .ok (.aload_n 3, 1) := by decide +kernel
theorem dL_law_458 : decode cL_law 458 = .ok (.iconst 0, 1) := by decide +kernel
theorem dL_law_459 : decode cL_law 459 = .ok (.laload, 1) := by decide +kernel
theorem dL_law_460 : decode cL_law 460 = .ok (.lload 6, 2) := by decide +kernel
theorem dL_law_462 : decode cL_law 462 = .ok (.lcmp, 1) := by decide +kernel
theorem dL_law_463 : decode cL_law 463 = .ok (.ifCond .eq 5, 3) := by decide +kernel
theorem dL_law_466 : decode cL_law 466 = .ok (.iconst 0, 1) := by decide +kernel
theorem dL_law_467 : decode cL_law 467 = .ok (.ireturn, 1) := by decide +kernel
theorem dL_law_468 : decode cL_law 468 = .ok (.goto 464, 3) := by decide +kernel
theorem dL_law_471 : decode cL_law 471 = .ok (.aload_n 1, 1) := by decide +kernel
theorem dL_law_472 : decode cL_law 472 = .ok (.aload_n 0, 1) := by decide +kernel
theorem dL_law_473 : decode cL_law 473 = .ok (.iload 4, 2) := by decide +kernel
theorem dL_law_475 : decode cL_law 475 = .ok (.iconst 1, 1) := by decide +kernel
theorem dL_law_476 : decode cL_law 476 = .ok (.iadd, 1) := by decide +kernel
theorem dL_law_477 : decode cL_law 477 = .ok (.iaload, 1) := by decide +kernel
theorem dL_law_478 : decode cL_law 478 = .ok (.aload_n 0, 1) := by decide +kernel
theorem dL_law_479 : decode cL_law 479 = .ok (.iload 4, 2) := by decide +kernel
theorem dL_law_481 : decode cL_law 481 = .ok (.iconst 2, 1) := by decide +kernel
theorem dL_law_482 : decode cL_law 482 = .ok (.iadd, 1) := by decide +kernel
theorem dL_law_483 : decode cL_law 483 = .ok (.iaload, 1) := by decide +kernel
theorem dL_law_484 : decode cL_law 484 = .ok (.aload_n 3, 1) := by decide +kernel
theorem dL_law_485 : decode cL_law 485 = .ok (.invokestatic 85, 3) := by decide +kernel
theorem dL_law_488 : decode cL_law 488 = .ok (.istore 5, 2) := by decide +kernel
theorem dL_law_490 : decode cL_law 490 = .ok (.aload_n 2, 1) := by decide +kernel
theorem dL_law_491 : decode cL_law 491 = .ok (.aload_n 0, 1) := by decide +kernel
theorem dL_law_492 : decode cL_law 492 = .ok (.iload 4, 2) := by decide +kernel
theorem dL_law_494 : decode cL_law 494 = .ok (.iconst 1, 1) := by decide +kernel
theorem dL_law_495 : decode cL_law 495 = .ok (.iadd, 1) := by decide +kernel
theorem dL_law_496 : decode cL_law 496 = .ok (.iaload, 1) := by decide +kernel
theorem dL_law_497 : decode cL_law 497 = .ok (.aload_n 0, 1) := by decide +kernel
theorem dL_law_498 : decode cL_law 498 = .ok (.iload 4, 2) := by decide +kernel
theorem dL_law_500 : decode cL_law 500 = .ok (.iconst 2, 1) := by decide +kernel
theorem dL_law_501 : decode cL_law 501 = .ok (.iadd, 1) := by decide +kernel
theorem dL_law_502 : decode cL_law 502 = .ok (.iaload, 1) := by decide +kernel
theorem dL_law_503 : decode cL_law 503 = .ok (.invokevirtual 87, 3) := by decide +kernel
theorem dL_law_506 : decode cL_law 506 = .ok (.lstore 6, 2) := by decide +kernel
theorem dL_law_508 : decode cL_law 508 = .ok (.aload_n 2, 1) := by decide +kernel
theorem dL_law_509 : decode cL_law 509 = .ok (.invokevirtual 68, 3) := by decide +kernel
theorem dL_law_512 : decode cL_law 512 = .ok (.iload 5, 2) := by decide +kernel
theorem dL_law_514 : decode cL_law 514 = .ok (.if_icmp .eq 5, 3) := by decide +kernel
theorem dL_law_517 : decode cL_law 517 = .ok (.iconst 0, 1) := by decide +kernel
theorem dL_law_518 : decode cL_law 518 = .ok (.ireturn, 1) := by decide +kernel
theorem dL_law_519 : decode cL_law 519 = .ok (.iload 5, 2) := by decide +kernel
theorem dL_law_521 : decode cL_law 521 = .ok (.ifCond .ne 14, 3) := by decide +kernel
theorem dL_law_524 : decode cL_law 524 = .ok (.aload_n 3, 1) := by decide +kernel
theorem dL_law_525 : decode cL_law 525 = .ok (.iconst 0, 1) := by decide +kernel
theorem dL_law_526 : decode cL_law 526 = .ok (.laload, 1) := by decide +kernel
theorem dL_law_527 : decode cL_law 527 = .ok (.lload 6, 2) := by decide +kernel
theorem dL_law_529 : decode cL_law 529 = .ok (.lcmp, 1) := by decide +kernel
theorem dL_law_530 : decode cL_law 530 = .ok (.ifCond .eq 5, 3) := by decide +kernel
theorem dL_law_533 : decode cL_law 533 = .ok (.iconst 0, 1) := by decide +kernel
theorem dL_law_534 : decode cL_law 534 = .ok (.ireturn, 1) := by decide +kernel
theorem dL_law_535 : decode cL_law 535 = .ok (.goto 397, 3) := by decide +kernel
theorem dL_law_538 : decode cL_law 538 = .ok (.aload_n 1, 1) := by decide +kernel
theorem dL_law_539 : decode cL_law 539 = .ok (.aload_n 0, 1) := by decide +kernel
theorem dL_law_540 : decode cL_law 540 = .ok (.iload 4, 2) := by decide +kernel
theorem dL_law_542 : decode cL_law 542 = .ok (.iconst 1, 1) := by decide +kernel
theorem dL_law_543 : decode cL_law 543 = .ok (.iadd, 1) := by decide +kernel
theorem dL_law_544 : decode cL_law 544 = .ok (.iaload, 1) := by decide +kernel
theorem dL_law_545 : decode cL_law 545 = .ok (.aload_n 0, 1) := by decide +kernel
theorem dL_law_546 : decode cL_law 546 = .ok (.iload 4, 2) := by decide +kernel
theorem dL_law_548 : decode cL_law 548 = .ok (.iconst 2, 1) := by decide +kernel
theorem dL_law_549 : decode cL_law 549 = .ok (.iadd, 1) := by decide +kernel
theorem dL_law_550 : decode cL_law 550 = .ok (.iaload, 1) := by decide +kernel
theorem dL_law_551 : decode cL_law 551 = .ok (.aload_n 0, 1) := by decide +kernel
theorem dL_law_552 : decode cL_law 552 = .ok (.iload 4, 2) := by decide +kernel
theorem dL_law_554 : decode cL_law 554 = .ok (.iconst 3, 1) := by decide +kernel
theorem dL_law_555 : decode cL_law 555 = .ok (.iadd, 1) := by decide +kernel
theorem dL_law_556 : decode cL_law 556 = .ok (.iaload, 1) := by decide +kernel
theorem dL_law_557 : decode cL_law 557 = .ok (.aload_n 3, 1) := by decide +kernel
theorem dL_law_558 : decode cL_law 558 = .ok (.invokestatic 88, 3) := by decide +kernel
theorem dL_law_561 : decode cL_law 561 = .ok (.istore 5, 2) := by decide +kernel
theorem dL_law_563 : decode cL_law 563 = .ok (.aload_n 2, 1) := by decide +kernel
theorem dL_law_564 : decode cL_law 564 = .ok (.aload_n 0, 1) := by decide +kernel
theorem dL_law_565 : decode cL_law 565 = .ok (.iload 4, 2) := by decide +kernel
theorem dL_law_567 : decode cL_law 567 = .ok (.iconst 1, 1) := by decide +kernel
theorem dL_law_568 : decode cL_law 568 = .ok (.iadd, 1) := by decide +kernel
theorem dL_law_569 : decode cL_law 569 = .ok (.iaload, 1) := by decide +kernel
theorem dL_law_570 : decode cL_law 570 = .ok (.aload_n 0, 1) := by decide +kernel
theorem dL_law_571 : decode cL_law 571 = .ok (.iload 4, 2) := by decide +kernel
theorem dL_law_573 : decode cL_law 573 = .ok (.iconst 2, 1) := by decide +kernel
theorem dL_law_574 : decode cL_law 574 = .ok (.iadd, 1) := by decide +kernel
theorem dL_law_575 : decode cL_law 575 = .ok (.iaload, 1) := by decide +kernel
theorem dL_law_576 : decode cL_law 576 = .ok (.aload_n 0, 1) := by decide +kernel
theorem dL_law_577 : decode cL_law 577 = .ok (.iload 4, 2) := by decide +kernel
theorem dL_law_579 : decode cL_law 579 = .ok (.iconst 3, 1) := by decide +kernel
theorem dL_law_580 : decode cL_law 580 = .ok (.iadd, 1) := by decide +kernel
theorem dL_law_581 : decode cL_law 581 = .ok (.iaload, 1) := by decide +kernel
theorem dL_law_582 : decode cL_law 582 = .ok (.invokevirtual 91, 3) := by decide +kernel
theorem dL_law_585 : decode cL_law 585 = .ok (.istore 6, 2) := by decide +kernel
theorem dL_law_587 : decode cL_law 587 = .ok (.aload_n 2, 1) := by decide +kernel
theorem dL_law_588 : decode cL_law 588 = .ok (.invokevirtual 68, 3) := by decide +kernel
theorem dL_law_591 : decode cL_law 591 = .ok (.iload 5, 2) := by decide +kernel
theorem dL_law_593 : decode cL_law 593 = .ok (.if_icmp .eq 5, 3) := by decide +kernel
theorem dL_law_596 : decode cL_law 596 = .ok (.iconst 0, 1) := by decide +kernel
theorem dL_law_597 : decode cL_law 597 = .ok (.ireturn, 1) := by decide +kernel
theorem dL_law_598 : decode cL_law 598 = .ok (.iload 5, 2) := by decide +kernel
theorem dL_law_600 : decode cL_law 600 = .ok (.ifCond .ne 15, 3) := by decide +kernel
theorem dL_law_603 : decode cL_law 603 = .ok (.aload_n 3, 1) := by decide +kernel
theorem dL_law_604 : decode cL_law 604 = .ok (.iconst 0, 1) := by decide +kernel
theorem dL_law_605 : decode cL_law 605 = .ok (.laload, 1) := by decide +kernel
theorem dL_law_606 : decode cL_law 606 = .ok (.iload 6, 2) := by decide +kernel
theorem dL_law_608 : decode cL_law 608 = .ok (.i2l, 1) := by decide +kernel
theorem dL_law_609 : decode cL_law 609 = .ok (.lcmp, 1) := by decide +kernel
theorem dL_law_610 : decode cL_law 610 = .ok (.ifCond .eq 5, 3) := by decide +kernel
theorem dL_law_613 : decode cL_law 613 = .ok (.iconst 0, 1) := by decide +kernel
theorem dL_law_614 : decode cL_law 614 = .ok (.ireturn, 1) := by decide +kernel
theorem dL_law_615 : decode cL_law 615 = .ok (.goto 317, 3) := by decide +kernel
theorem dL_law_618 : decode cL_law 618 = .ok (.aload_n 1, 1) := by decide +kernel
theorem dL_law_619 : decode cL_law 619 = .ok (.aload_n 0, 1) := by decide +kernel
theorem dL_law_620 : decode cL_law 620 = .ok (.iload 4, 2) := by decide +kernel
theorem dL_law_622 : decode cL_law 622 = .ok (.iconst 1, 1) := by decide +kernel
theorem dL_law_623 : decode cL_law 623 = .ok (.iadd, 1) := by decide +kernel
theorem dL_law_624 : decode cL_law 624 = .ok (.iaload, 1) := by decide +kernel
theorem dL_law_625 : decode cL_law 625 = .ok (.ifCond .eq 7, 3) := by decide +kernel
theorem dL_law_628 : decode cL_law 628 = .ok (.iconst 1, 1) := by decide +kernel
theorem dL_law_629 : decode cL_law 629 = .ok (.goto 4, 3) := by decide +kernel
theorem dL_law_632 : decode cL_law 632 = .ok (.iconst 0, 1) := by decide +kernel
theorem dL_law_633 : decode cL_law 633 = .ok (.aload_n 0, 1) := by decide +kernel
theorem dL_law_634 : decode cL_law 634 = .ok (.iload 4, 2) := by decide +kernel
theorem dL_law_636 : decode cL_law 636 = .ok (.iconst 2, 1) := by decide +kernel
theorem dL_law_637 : decode cL_law 637 = .ok (.iadd, 1) := by decide +kernel
theorem dL_law_638 : decode cL_law 638 = .ok (.iaload, 1) := by decide +kernel
theorem dL_law_639 : decode cL_law 639 = .ok (.aload_n 0, 1) := by decide +kernel
theorem dL_law_640 : decode cL_law 640 = .ok (.iload 4, 2) := by decide +kernel
theorem dL_law_642 : decode cL_law 642 = .ok (.iconst 3, 1) := by decide +kernel
theorem dL_law_643 : decode cL_law 643 = .ok (.iadd, 1) := by decide +kernel
theorem dL_law_644 : decode cL_law 644 = .ok (.iaload, 1) := by decide +kernel
theorem dL_law_645 : decode cL_law 645 = .ok (.aload_n 0, 1) := by decide +kernel
theorem dL_law_646 : decode cL_law 646 = .ok (.iload 4, 2) := by decide +kernel
theorem dL_law_648 : decode cL_law 648 = .ok (.iconst 4, 1) := by decide +kernel
theorem dL_law_649 : decode cL_law 649 = .ok (.iadd, 1) := by decide +kernel
theorem dL_law_650 : decode cL_law 650 = .ok (.iaload, 1) := by decide +kernel
theorem dL_law_651 : decode cL_law 651 = .ok (.aload_n 3, 1) := by decide +kernel
theorem dL_law_652 : decode cL_law 652 = .ok (.invokestatic 92, 3) := by decide +kernel
theorem dL_law_655 : decode cL_law 655 = .ok (.istore 5, 2) := by decide +kernel
theorem dL_law_657 : decode cL_law 657 = .ok (.aload_n 2, 1) := by decide +kernel
theorem dL_law_658 : decode cL_law 658 = .ok (.aload_n 0, 1) := by decide +kernel
theorem dL_law_659 : decode cL_law 659 = .ok (.iload 4, 2) := by decide +kernel
theorem dL_law_661 : decode cL_law 661 = .ok (.iconst 1, 1) := by decide +kernel
theorem dL_law_662 : decode cL_law 662 = .ok (.iadd, 1) := by decide +kernel
theorem dL_law_663 : decode cL_law 663 = .ok (.iaload, 1) := by decide +kernel
theorem dL_law_664 : decode cL_law 664 = .ok (.ifCond .eq 7, 3) := by decide +kernel
theorem dL_law_667 : decode cL_law 667 = .ok (.iconst 1, 1) := by decide +kernel
theorem dL_law_668 : decode cL_law 668 = .ok (.goto 4, 3) := by decide +kernel
theorem dL_law_671 : decode cL_law 671 = .ok (.iconst 0, 1) := by decide +kernel
theorem dL_law_672 : decode cL_law 672 = .ok (.aload_n 0, 1) := by decide +kernel
theorem dL_law_673 : decode cL_law 673 = .ok (.iload 4, 2) := by decide +kernel
theorem dL_law_675 : decode cL_law 675 = .ok (.iconst 2, 1) := by decide +kernel
theorem dL_law_676 : decode cL_law 676 = .ok (.iadd, 1) := by decide +kernel
theorem dL_law_677 : decode cL_law 677 = .ok (.iaload, 1) := by decide +kernel
theorem dL_law_678 : decode cL_law 678 = .ok (.aload_n 0, 1) := by decide +kernel
theorem dL_law_679 : decode cL_law 679 = .ok (.iload 4, 2) := by decide +kernel
theorem dL_law_681 : decode cL_law 681 = .ok (.iconst 3, 1) := by decide +kernel
theorem dL_law_682 : decode cL_law 682 = .ok (.iadd, 1) := by decide +kernel
theorem dL_law_683 : decode cL_law 683 = .ok (.iaload, 1) := by decide +kernel
theorem dL_law_684 : decode cL_law 684 = .ok (.aload_n 0, 1) := by decide +kernel
theorem dL_law_685 : decode cL_law 685 = .ok (.iload 4, 2) := by decide +kernel
theorem dL_law_687 : decode cL_law 687 = .ok (.iconst 4, 1) := by decide +kernel
theorem dL_law_688 : decode cL_law 688 = .ok (.iadd, 1) := by decide +kernel
theorem dL_law_689 : decode cL_law 689 = .ok (.iaload, 1) := by decide +kernel
theorem dL_law_690 : decode cL_law 690 = .ok (.invokevirtual 95, 3) := by decide +kernel
theorem dL_law_693 : decode cL_law 693 = .ok (.istore 6, 2) := by decide +kernel
theorem dL_law_695 : decode cL_law 695 = .ok (.aload_n 2, 1) := by decide +kernel
theorem dL_law_696 : decode cL_law 696 = .ok (.invokevirtual 68, 3) := by decide +kernel
theorem dL_law_699 : decode cL_law 699 = .ok (.iload 5, 2) := by decide +kernel
theorem dL_law_701 : decode cL_law 701 = .ok (.if_icmp .eq 5, 3) := by decide +kernel
theorem dL_law_704 : decode cL_law 704 = .ok (.iconst 0, 1) := by decide +kernel
theorem dL_law_705 : decode cL_law 705 = .ok (.ireturn, 1) := by decide +kernel
theorem dL_law_706 : decode cL_law 706 = .ok (.iload 5, 2) := by decide +kernel
theorem dL_law_708 : decode cL_law 708 = .ok (.ifCond .ne 15, 3) := by decide +kernel
theorem dL_law_711 : decode cL_law 711 = .ok (.aload_n 3, 1) := by decide +kernel
theorem dL_law_712 : decode cL_law 712 = .ok (.iconst 0, 1) := by decide +kernel
theorem dL_law_713 : decode cL_law 713 = .ok (.laload, 1) := by decide +kernel
theorem dL_law_714 : decode cL_law 714 = .ok (.iload 6, 2) := by decide +kernel
theorem dL_law_716 : decode cL_law 716 = .ok (.i2l, 1) := by decide +kernel
theorem dL_law_717 : decode cL_law 717 = .ok (.lcmp, 1) := by decide +kernel
theorem dL_law_718 : decode cL_law 718 = .ok (.ifCond .eq 5, 3) := by decide +kernel
theorem dL_law_721 : decode cL_law 721 = .ok (.iconst 0, 1) := by decide +kernel
theorem dL_law_722 : decode cL_law 722 = .ok (.ireturn, 1) := by decide +kernel
theorem dL_law_723 : decode cL_law 723 = .ok (.goto 209, 3) := by decide +kernel
theorem dL_law_726 : decode cL_law 726 = .ok (.aload_n 1, 1) := by decide +kernel
theorem dL_law_727 : decode cL_law 727 = .ok (.invokevirtual 96, 3) := by decide +kernel
theorem dL_law_730 : decode cL_law 730 = .ok (.aload_n 2, 1) := by decide +kernel
theorem dL_law_731 : decode cL_law 731 = .ok (.invokevirtual 99, 3) := by decide +kernel
theorem dL_law_734 : decode cL_law 734 = .ok (.if_icmp .eq 198, 3) := by decide +kernel
theorem dL_law_737 : decode cL_law 737 = .ok (.iconst 0, 1) := by decide +kernel
theorem dL_law_738 : decode cL_law 738 = .ok (.ireturn, 1) := by decide +kernel
theorem dL_law_739 : decode cL_law 739 = .ok (.aload_n 1, 1) := by decide +kernel
theorem dL_law_740 : decode cL_law 740 = .ok (.aload_n 0, 1) := by decide +kernel
theorem dL_law_741 : decode cL_law 741 = .ok (.iload 4, 2) := by decide +kernel
theorem dL_law_743 : decode cL_law 743 = .ok (.iconst 1, 1) := by decide +kernel
theorem dL_law_744 : decode cL_law 744 = .ok (.iadd, 1) := by decide +kernel
theorem dL_law_745 : decode cL_law 745 = .ok (.iaload, 1) := by decide +kernel
theorem dL_law_746 : decode cL_law 746 = .ok (.aload_n 3, 1) := by decide +kernel
theorem dL_law_747 : decode cL_law 747 = .ok (.invokestatic 100, 3) := by decide +kernel
theorem dL_law_750 : decode cL_law 750 = .ok (.istore 5, 2) := by decide +kernel
theorem dL_law_752 : decode cL_law 752 = .ok (.aload_n 2, 1) := by decide +kernel
theorem dL_law_753 : decode cL_law 753 = .ok (.aload_n 0, 1) := by decide +kernel
theorem dL_law_754 : decode cL_law 754 = .ok (.iload 4, 2) := by decide +kernel
theorem dL_law_756 : decode cL_law 756 = .ok (.iconst 1, 1) := by decide +kernel
theorem dL_law_757 : decode cL_law 757 = .ok (.iadd, 1) := by decide +kernel
theorem dL_law_758 : decode cL_law 758 = .ok (.iaload, 1) := by decide +kernel
theorem dL_law_759 : decode cL_law 759 = .ok (.invokevirtual 103, 3) := by decide +kernel
theorem dL_law_762 : decode cL_law 762 = .ok (.istore 6, 2) := by decide +kernel
theorem dL_law_764 : decode cL_law 764 = .ok (.aload_n 2, 1) := by decide +kernel
theorem dL_law_765 : decode cL_law 765 = .ok (.invokevirtual 68, 3) := by decide +kernel
theorem dL_law_768 : decode cL_law 768 = .ok (.iload 5, 2) := by decide +kernel
theorem dL_law_770 : decode cL_law 770 = .ok (.if_icmp .eq 5, 3) := by decide +kernel
theorem dL_law_773 : decode cL_law 773 = .ok (.iconst 0, 1) := by decide +kernel
theorem dL_law_774 : decode cL_law 774 = .ok (.ireturn, 1) := by decide +kernel
theorem dL_law_775 : decode cL_law 775 = .ok (.iload 5, 2) := by decide +kernel
theorem dL_law_777 : decode cL_law 777 = .ok (.ifCond .ne 15, 3) := by decide +kernel
theorem dL_law_780 : decode cL_law 780 = .ok (.aload_n 3, 1) := by decide +kernel
theorem dL_law_781 : decode cL_law 781 = .ok (.iconst 0, 1) := by decide +kernel
theorem dL_law_782 : decode cL_law 782 = .ok (.laload, 1) := by decide +kernel
theorem dL_law_783 : decode cL_law 783 = .ok (.iload 6, 2) := by decide +kernel
theorem dL_law_785 : decode cL_law 785 = .ok (.i2l, 1) := by decide +kernel
theorem dL_law_786 : decode cL_law 786 = .ok (.lcmp, 1) := by decide +kernel
theorem dL_law_787 : decode cL_law 787 = .ok (.ifCond .eq 5, 3) := by decide +kernel
theorem dL_law_790 : decode cL_law 790 = .ok (.iconst 0, 1) := by decide +kernel
theorem dL_law_791 : decode cL_law 791 = .ok (.ireturn, 1) := by decide +kernel
theorem dL_law_792 : decode cL_law 792 = .ok (.goto 140, 3) := by decide +kernel
theorem dL_law_795 : decode cL_law 795 = .ok (.aload_n 1, 1) := by decide +kernel
theorem dL_law_796 : decode cL_law 796 = .ok (.aload_n 0, 1) := by decide +kernel
theorem dL_law_797 : decode cL_law 797 = .ok (.iload 4, 2) := by decide +kernel
theorem dL_law_799 : decode cL_law 799 = .ok (.iconst 1, 1) := by decide +kernel
theorem dL_law_800 : decode cL_law 800 = .ok (.iadd, 1) := by decide +kernel
theorem dL_law_801 : decode cL_law 801 = .ok (.iaload, 1) := by decide +kernel
theorem dL_law_802 : decode cL_law 802 = .ok (.aload_n 3, 1) := by decide +kernel
theorem dL_law_803 : decode cL_law 803 = .ok (.invokestatic 104, 3) := by decide +kernel
theorem dL_law_806 : decode cL_law 806 = .ok (.istore 5, 2) := by decide +kernel
theorem dL_law_808 : decode cL_law 808 = .ok (.aload_n 2, 1) := by decide +kernel
theorem dL_law_809 : decode cL_law 809 = .ok (.aload_n 0, 1) := by decide +kernel
theorem dL_law_810 : decode cL_law 810 = .ok (.iload 4, 2) := by decide +kernel
theorem dL_law_812 : decode cL_law 812 = .ok (.iconst 1, 1) := by decide +kernel
theorem dL_law_813 : decode cL_law 813 = .ok (.iadd, 1) := by decide +kernel
theorem dL_law_814 : decode cL_law 814 = .ok (.iaload, 1) := by decide +kernel
theorem dL_law_815 : decode cL_law 815 = .ok (.invokevirtual 106, 3) := by decide +kernel
theorem dL_law_818 : decode cL_law 818 = .ok (.istore 6, 2) := by decide +kernel
theorem dL_law_820 : decode cL_law 820 = .ok (.aload_n 2, 1) := by decide +kernel
theorem dL_law_821 : decode cL_law 821 = .ok (.invokevirtual 68, 3) := by decide +kernel
theorem dL_law_824 : decode cL_law 824 = .ok (.iload 5, 2) := by decide +kernel
theorem dL_law_826 : decode cL_law 826 = .ok (.if_icmp .eq 5, 3) := by decide +kernel
theorem dL_law_829 : decode cL_law 829 = .ok (.iconst 0, 1) := by decide +kernel
theorem dL_law_830 : decode cL_law 830 = .ok (.ireturn, 1) := by decide +kernel
theorem dL_law_831 : decode cL_law 831 = .ok (.iload 5, 2) := by decide +kernel
theorem dL_law_833 : decode cL_law 833 = .ok (.ifCond .ne 15, 3) := by decide +kernel
theorem dL_law_836 : decode cL_law 836 = .ok (.aload_n 3, 1) := by decide +kernel
theorem dL_law_837 : decode cL_law 837 = .ok (.iconst 0, 1) := by decide +kernel
theorem dL_law_838 : decode cL_law 838 = .ok (.laload, 1) := by decide +kernel
theorem dL_law_839 : decode cL_law 839 = .ok (.iload 6, 2) := by decide +kernel
theorem dL_law_841 : decode cL_law 841 = .ok (.i2l, 1) := by decide +kernel
theorem dL_law_842 : decode cL_law 842 = .ok (.lcmp, 1) := by decide +kernel
theorem dL_law_843 : decode cL_law 843 = .ok (.ifCond .eq 5, 3) := by decide +kernel
theorem dL_law_846 : decode cL_law 846 = .ok (.iconst 0, 1) := by decide +kernel
theorem dL_law_847 : decode cL_law 847 = .ok (.ireturn, 1) := by decide +kernel
theorem dL_law_848 : decode cL_law 848 = .ok (.goto 84, 3) := by decide +kernel
theorem dL_law_851 : decode cL_law 851 = .ok (.aload_n 1, 1) := by decide +kernel
theorem dL_law_852 : decode cL_law 852 = .ok (.aload_n 0, 1) := by decide +kernel
theorem dL_law_853 : decode cL_law 853 = .ok (.iload 4, 2) := by decide +kernel
theorem dL_law_855 : decode cL_law 855 = .ok (.iconst 1, 1) := by decide +kernel
theorem dL_law_856 : decode cL_law 856 = .ok (.iadd, 1) := by decide +kernel
theorem dL_law_857 : decode cL_law 857 = .ok (.iaload, 1) := by decide +kernel
theorem dL_law_858 : decode cL_law 858 = .ok (.invokevirtual 107, 3) := by decide +kernel
theorem dL_law_861 : decode cL_law 861 = .ok (.aload_n 2, 1) := by decide +kernel
theorem dL_law_862 : decode cL_law 862 = .ok (.aload_n 0, 1) := by decide +kernel
theorem dL_law_863 : decode cL_law 863 = .ok (.iload 4, 2) := by decide +kernel
theorem dL_law_865 : decode cL_law 865 = .ok (.iconst 1, 1) := by decide +kernel
theorem dL_law_866 : decode cL_law 866 = .ok (.iadd, 1) := by decide +kernel
theorem dL_law_867 : decode cL_law 867 = .ok (.iaload, 1) := by decide +kernel
theorem dL_law_868 : decode cL_law 868 = .ok (.invokevirtual 110, 3) := by decide +kernel
theorem dL_law_871 : decode cL_law 871 = .ok (.if_icmp .eq 61, 3) := by decide +kernel
theorem dL_law_874 : decode cL_law 874 = .ok (.iconst 0, 1) := by decide +kernel
theorem dL_law_875 : decode cL_law 875 = .ok (.ireturn, 1) := by decide +kernel
theorem dL_law_876 : decode cL_law 876 = .ok (.aload_n 1, 1) := by decide +kernel
theorem dL_law_877 : decode cL_law 877 = .ok (.aload_n 0, 1) := by decide +kernel
theorem dL_law_878 : decode cL_law 878 = .ok (.iload 4, 2) := by decide +kernel
theorem dL_law_880 : decode cL_law 880 = .ok (.iconst 1, 1) := by decide +kernel
theorem dL_law_881 : decode cL_law 881 = .ok (.iadd, 1) := by decide +kernel
theorem dL_law_882 : decode cL_law 882 = .ok (.iaload, 1) := by decide +kernel
theorem dL_law_883 : decode cL_law 883 = .ok (.aload_n 3, 1) := by decide +kernel
theorem dL_law_884 : decode cL_law 884 = .ok (.invokestatic 111, 3) := by decide +kernel
theorem dL_law_887 : decode cL_law 887 = .ok (.istore 5, 2) := by decide +kernel
theorem dL_law_889 : decode cL_law 889 = .ok (.aload_n 2, 1) := by decide +kernel
theorem dL_law_890 : decode cL_law 890 = .ok (.aload_n 0, 1) := by decide +kernel
theorem dL_law_891 : decode cL_law 891 = .ok (.iload 4, 2) := by decide +kernel
theorem dL_law_893 : decode cL_law 893 = .ok (.iconst 1, 1) := by decide +kernel
theorem dL_law_894 : decode cL_law 894 = .ok (.iadd, 1) := by decide +kernel
theorem dL_law_895 : decode cL_law 895 = .ok (.iaload, 1) := by decide +kernel
theorem dL_law_896 : decode cL_law 896 = .ok (.invokevirtual 113, 3) := by decide +kernel
theorem dL_law_899 : decode cL_law 899 = .ok (.istore 6, 2) := by decide +kernel
theorem dL_law_901 : decode cL_law 901 = .ok (.aload_n 2, 1) := by decide +kernel
theorem dL_law_902 : decode cL_law 902 = .ok (.invokevirtual 68, 3) := by decide +kernel
theorem dL_law_905 : decode cL_law 905 = .ok (.iload 5, 2) := by decide +kernel
theorem dL_law_907 : decode cL_law 907 = .ok (.if_icmp .eq 5, 3) := by decide +kernel
theorem dL_law_910 : decode cL_law 910 = .ok (.iconst 0, 1) := by decide +kernel
theorem dL_law_911 : decode cL_law 911 = .ok (.ireturn, 1) := by decide +kernel
theorem dL_law_912 : decode cL_law 912 = .ok (.iload 5, 2) := by decide +kernel
theorem dL_law_914 : decode cL_law 914 = .ok (.ifCond .ne 15, 3) := by decide +kernel
theorem dL_law_917 : decode cL_law 917 = .ok (.aload_n 3, 1) := by decide +kernel
theorem dL_law_918 : decode cL_law 918 = .ok (.iconst 0, 1) := by decide +kernel
theorem dL_law_919 : decode cL_law 919 = .ok (.laload, 1) := by decide +kernel
theorem dL_law_920 : decode cL_law 920 = .ok (.iload 6, 2) := by decide +kernel
theorem dL_law_922 : decode cL_law 922 = .ok (.i2l, 1) := by decide +kernel
theorem dL_law_923 : decode cL_law 923 = .ok (.lcmp, 1) := by decide +kernel
theorem dL_law_924 : decode cL_law 924 = .ok (.ifCond .eq 5, 3) := by decide +kernel
theorem dL_law_927 : decode cL_law 927 = .ok (.iconst 0, 1) := by decide +kernel
theorem dL_law_928 : decode cL_law 928 = .ok (.ireturn, 1) := by decide +kernel
theorem dL_law_929 : decode cL_law 929 = .ok (.goto 3, 3) := by decide +kernel
theorem dL_law_932 : decode cL_law 932 = .ok (.iinc 4 6, 3) := by decide +kernel
theorem dL_law_935 : decode cL_law 935 = .ok (.goto (-912), 3) := by decide +kernel
theorem dL_law_938 : decode cL_law 938 = .ok (.iconst 1, 1) := by decide +kernel
theorem dL_law_939 : decode cL_law 939 = .ok (.ireturn, 1) := by decide +kernel
abbrev vwCl : List vw_C := [(RX0, TX0, 9), (RX1, TX1, 11), (RX2, TX2, 13), (RX3, TX3, 5)]
end
section
-- 02: the state of both sides as numbers, the world made of it, own rows over it
abbrev Sta : Type := (Nat → Int32) × (Nat → Nat → Int32) × (Nat → Nat → Int64)
def zI (z : Sta) (k : Nat) (v : Int32) : Sta := (fun j => if j = k then v else z.1 j, z.2.1, z.2.2)
def zA (z : Sta) (k : Nat) (f : Nat → Int32) : Sta := (z.1, fun j => if j = k then f else z.2.1 j, z.2.2)
def zL (z : Sta) (k : Nat) (f : Nat → Int64) : Sta := (z.1, z.2.1, fun j => if j = k then f else z.2.2 j)
def lw_g : List Cond := lw_tbl.filter goodWord
theorem wk_good : ∀ w ∈ lw_g, (w.onTables && w.keeps) = true ∨ ∃ ty, w = .arrayClass ty := fun w h => good_of_word (List.mem_filter.mp h).2
theorem wk_in {w : Cond} (i : Nat) (h : tables_1[i]? = some w) (hg : goodWord w = true) : w ∈ lw_g := List.mem_filter.mpr ⟨List.mem_append_right _ (List.mem_of_getElem? h), hg⟩
theorem wk_is {w : Cond} (i : Nat) (h : (k2_sels lw_privs)[i]? = some w) (hg : goodWord w = true) : w ∈ lw_g := List.mem_filter.mpr ⟨List.mem_append_left _ (List.mem_of_getElem? h), hg⟩
def kr_C : String := "LazyMotion"
def kt_C : u_T := fun k => match k with
  | 0 => ("LazyMotion", "program", "LLazyMotion$Program;", true)
  | 1 => ("LazyMotion", "motion", "LLazyMotion$Motion;", true)
  | 2 => ("LazyMotion", "machine", "LLazyMotion$Machine;", true)
  | 3 => ("LazyMotion", "planned", "Z", false)
  | _ => ("LazyMotion", "plans", "I", false)
abbrev kn_C : Nat := 5
def ky_C : Nat → FieldType := fun k => match k with
  | 0 => .object "LazyMotion$Program"
  | 1 => .object "LazyMotion$Motion"
  | 2 => .object "LazyMotion$Machine"
  | 3 => .boolean
  | _ => .int
theorem ko_C : ∀ k, k < 5 → parseFieldDescriptor (kt_C k).2.2.1 = some (ky_C k) := by decide +kernel
theorem km_C : ∀ a, a < 5 → ∀ b, b < 5 → a ≠ b → (kt_C a).2.1 ≠ (kt_C b).2.1 := by decide +kernel
def kr_P : String := "LazyMotion$Program"
def kt_P : u_T := fun k => match k with
  | 0 => ("LazyMotion$Program", "blocks", "I", false)
  | 1 => ("LazyMotion$Program", "expressions", "I", false)
  | 2 => ("LazyMotion$Program", "sizes", "[I", true)
  | 3 => ("LazyMotion$Program", "kinds", "[I", true)
  | 4 => ("LazyMotion$Program", "targets", "[I", true)
  | 5 => ("LazyMotion$Program", "operands", "[I", true)
  | 6 => ("LazyMotion$Program", "tested", "[I", true)
  | 7 => ("LazyMotion$Program", "firsts", "[I", true)
  | 8 => ("LazyMotion$Program", "seconds", "[I", true)
  | 9 => ("LazyMotion$Program", "lefts", "[I", true)
  | 10 => ("LazyMotion$Program", "operators", "[I", true)
  | 11 => ("LazyMotion$Program", "rights", "[I", true)
  | _ => ("LazyMotion$Program", "users", "[J", true)
abbrev kn_P : Nat := 13
def ky_P : Nat → FieldType := fun k => match k with
  | 0 => .int
  | 1 => .int
  | 2 => .array .int
  | 3 => .array .int
  | 4 => .array .int
  | 5 => .array .int
  | 6 => .array .int
  | 7 => .array .int
  | 8 => .array .int
  | 9 => .array .int
  | 10 => .array .int
  | 11 => .array .int
  | _ => .array .long
theorem ko_P : ∀ k, k < 13 → parseFieldDescriptor (kt_P k).2.2.1 = some (ky_P k) := by decide +kernel
theorem km_P : ∀ a, a < 13 → ∀ b, b < 13 → a ≠ b → (kt_P a).2.1 ≠ (kt_P b).2.1 := by decide +kernel
def kr_O : String := "LazyMotion$Motion"
def kt_O : u_T := fun k => match k with
  | 0 => ("LazyMotion$Motion", "program", "LLazyMotion$Program;", true)
  | 1 => ("LazyMotion$Motion", "reached", "[Z", true)
  | 2 => ("LazyMotion$Motion", "changes", "[J", true)
  | 3 => ("LazyMotion$Motion", "asks", "[J", true)
  | 4 => ("LazyMotion$Motion", "leaves", "[J", true)
  | 5 => ("LazyMotion$Motion", "thereBefore", "[J", true)
  | 6 => ("LazyMotion$Motion", "thereBehind", "[J", true)
  | 7 => ("LazyMotion$Motion", "wantedBefore", "[J", true)
  | 8 => ("LazyMotion$Motion", "wantedBehind", "[J", true)
  | 9 => ("LazyMotion$Motion", "lateBefore", "[J", true)
  | _ => ("LazyMotion$Motion", "takenOut", "[J", true)
abbrev kn_O : Nat := 11
def ky_O : Nat → FieldType := fun k => match k with
  | 0 => .object "LazyMotion$Program"
  | 1 => .array .boolean
  | 2 => .array .long
  | 3 => .array .long
  | 4 => .array .long
  | 5 => .array .long
  | 6 => .array .long
  | 7 => .array .long
  | 8 => .array .long
  | 9 => .array .long
  | _ => .array .long
theorem ko_O : ∀ k, k < 11 → parseFieldDescriptor (kt_O k).2.2.1 = some (ky_O k) := by decide +kernel
theorem km_O : ∀ a, a < 11 → ∀ b, b < 11 → a ≠ b → (kt_O a).2.1 ≠ (kt_O b).2.1 := by decide +kernel
def kr_K : String := "LazyMotion$Machine"
def kt_K : u_T := fun k => match k with
  | 0 => ("LazyMotion$Machine", "computations", "I", false)
  | 1 => ("LazyMotion$Machine", "given", "I", false)
  | 2 => ("LazyMotion$Machine", "passed", "I", false)
  | 3 => ("LazyMotion$Machine", "variables", "[I", true)
  | 4 => ("LazyMotion$Machine", "made", "[I", true)
  | 5 => ("LazyMotion$Machine", "numbers", "[I", true)
  | 6 => ("LazyMotion$Machine", "program", "LLazyMotion$Program;", true)
  | 7 => ("LazyMotion$Machine", "motion", "LLazyMotion$Motion;", true)
  | _ => ("LazyMotion$Machine", "temporaries", "[I", true)
abbrev kn_K : Nat := 9
def ky_K : Nat → FieldType := fun k => match k with
  | 0 => .int
  | 1 => .int
  | 2 => .int
  | 3 => .array .int
  | 4 => .array .int
  | 5 => .array .int
  | 6 => .object "LazyMotion$Program"
  | 7 => .object "LazyMotion$Motion"
  | _ => .array .int
theorem ko_K : ∀ k, k < 9 → parseFieldDescriptor (kt_K k).2.2.1 = some (ky_K k) := by decide +kernel
theorem km_K : ∀ a, a < 9 → ∀ b, b < 9 → a ≠ b → (kt_K a).2.1 ≠ (kt_K b).2.1 := by decide +kernel
def kr_M : String := "LazyMotionModel"
def kt_M : u_T := fun k => match k with
  | 0 => ("LazyMotionModel", "thrown", "I", false)
  | 1 => ("LazyMotionModel", "blocks", "I", false)
  | 2 => ("LazyMotionModel", "sizes", "[I", true)
  | 3 => ("LazyMotionModel", "statements", "[I", true)
  | 4 => ("LazyMotionModel", "ends", "[I", true)
  | 5 => ("LazyMotionModel", "expressions", "I", false)
  | 6 => ("LazyMotionModel", "left", "[I", true)
  | 7 => ("LazyMotionModel", "operator", "[I", true)
  | 8 => ("LazyMotionModel", "right", "[I", true)
  | 9 => ("LazyMotionModel", "planned", "Z", false)
  | 10 => ("LazyMotionModel", "plans", "I", false)
  | 11 => ("LazyMotionModel", "moved", "I", false)
  | 12 => ("LazyMotionModel", "reached", "[Z", true)
  | 13 => ("LazyMotionModel", "sets", "[I", true)
  | 14 => ("LazyMotionModel", "puts", "[I", true)
  | 15 => ("LazyMotionModel", "changes", "[Z", true)
  | 16 => ("LazyMotionModel", "asks", "[Z", true)
  | 17 => ("LazyMotionModel", "leaves", "[Z", true)
  | 18 => ("LazyMotionModel", "before", "[Z", true)
  | 19 => ("LazyMotionModel", "behind", "[Z", true)
  | 20 => ("LazyMotionModel", "wanted", "[Z", true)
  | 21 => ("LazyMotionModel", "later", "[Z", true)
  | 22 => ("LazyMotionModel", "late", "[Z", true)
  | 23 => ("LazyMotionModel", "values", "[I", true)
  | 24 => ("LazyMotionModel", "temporary", "[I", true)
  | 25 => ("LazyMotionModel", "counts", "[I", true)
  | 26 => ("LazyMotionModel", "outs", "I", false)
  | 27 => ("LazyMotionModel", "passed", "I", false)
  | 28 => ("LazyMotionModel", "made", "I", false)
  | _ => ("LazyMotionModel", "out", "[I", true)
abbrev kn_M : Nat := 30
def ky_M : Nat → FieldType := fun k => match k with
  | 0 => .int
  | 1 => .int
  | 2 => .array .int
  | 3 => .array .int
  | 4 => .array .int
  | 5 => .int
  | 6 => .array .int
  | 7 => .array .int
  | 8 => .array .int
  | 9 => .boolean
  | 10 => .int
  | 11 => .int
  | 12 => .array .boolean
  | 13 => .array .int
  | 14 => .array .int
  | 15 => .array .boolean
  | 16 => .array .boolean
  | 17 => .array .boolean
  | 18 => .array .boolean
  | 19 => .array .boolean
  | 20 => .array .boolean
  | 21 => .array .boolean
  | 22 => .array .boolean
  | 23 => .array .int
  | 24 => .array .int
  | 25 => .array .int
  | 26 => .int
  | 27 => .int
  | 28 => .int
  | _ => .array .int
theorem ko_M : ∀ k, k < 30 → parseFieldDescriptor (kt_M k).2.2.1 = some (ky_M k) := by decide +kernel
theorem km_M : ∀ a, a < 30 → ∀ b, b < 30 → a ≠ b → (kt_M a).2.1 ≠ (kt_M b).2.1 := by decide +kernel
def kr_L : String := "LazyMotionLaw"
def kr_A : String := "java/util/Arrays"
def kr_G : String := "java/lang/Long"
abbrev wk_cl : List vw_C := [(kr_C, kt_C, kn_C), (kr_P, kt_P, kn_P), (kr_O, kt_O, kn_O), (kr_K, kt_K, kn_K), (kr_M, kt_M, kn_M)]
def wW (q : Nat → Nat) (cA : Nat → ClassId) (z : Sta) : va_W := [(q 0, .inr (0, [.ref (q 1), .ref (q 2), .ref (q 3), .int (z.1 0), .int (z.1 1)])),
  (q 1, .inr (1, [.int (z.1 2), .int (z.1 3), .ref (q 5), .ref (q 6), .ref (q 7), .ref (q 8), .ref (q 9), .ref (q 10), .ref (q 11), .ref (q 12), .ref (q 13), .ref (q 14), .ref (q 15)])),
  (q 2, .inr (2, [.ref (q 1), .ref (q 16), .ref (q 17), .ref (q 18), .ref (q 19), .ref (q 20), .ref (q 21), .ref (q 22), .ref (q 23), .ref (q 24), .ref (q 25)])),
  (q 3, .inr (3, [.int (z.1 4), .int (z.1 5), .int (z.1 6), .ref (q 26), .ref (q 27), .ref (q 28), .ref (q 1), .ref (q 2), .ref (q 29)])),
  (q 4, .inr (4, [.int (z.1 7), .int (z.1 8), .ref (q 30), .ref (q 31), .ref (q 32), .int (z.1 9), .ref (q 33), .ref (q 34), .ref (q 35), .int (z.1 10), .int (z.1 11), .int (z.1 12), .ref (q 36), .ref (q 37), .ref (q 38), .ref (q 39), .ref (q 40), .ref (q 41), .ref (q 42), .ref (q 43), .ref (q 44), .ref (q 45), .ref (q 46), .ref (q 47), .ref (q 48), .ref (q 49), .int (z.1 13), .int (z.1 14), .int (z.1 15), .ref (q 50)])),
  (q 5, .inl (cA 5, 16, .inl (z.2.1 0))),
  (q 6, .inl (cA 6, 80, .inl (z.2.1 1))),
  (q 7, .inl (cA 7, 80, .inl (z.2.1 2))),
  (q 8, .inl (cA 8, 80, .inl (z.2.1 3))),
  (q 9, .inl (cA 9, 16, .inl (z.2.1 4))),
  (q 10, .inl (cA 10, 16, .inl (z.2.1 5))),
  (q 11, .inl (cA 11, 16, .inl (z.2.1 6))),
  (q 12, .inl (cA 12, 24, .inl (z.2.1 7))),
  (q 13, .inl (cA 13, 24, .inl (z.2.1 8))),
  (q 14, .inl (cA 14, 24, .inl (z.2.1 9))),
  (q 15, .inl (cA 15, 6, .inr (.inl (z.2.2 0)))),
  (q 16, .inl (cA 16, 16, .inl (z.2.1 10))),
  (q 17, .inl (cA 17, 16, .inr (.inl (z.2.2 1)))),
  (q 18, .inl (cA 18, 16, .inr (.inl (z.2.2 2)))),
  (q 19, .inl (cA 19, 16, .inr (.inl (z.2.2 3)))),
  (q 20, .inl (cA 20, 16, .inr (.inl (z.2.2 4)))),
  (q 21, .inl (cA 21, 16, .inr (.inl (z.2.2 5)))),
  (q 22, .inl (cA 22, 16, .inr (.inl (z.2.2 6)))),
  (q 23, .inl (cA 23, 16, .inr (.inl (z.2.2 7)))),
  (q 24, .inl (cA 24, 16, .inr (.inl (z.2.2 8)))),
  (q 25, .inl (cA 25, 16, .inr (.inl (z.2.2 9)))),
  (q 26, .inl (cA 26, 6, .inl (z.2.1 11))),
  (q 27, .inl (cA 27, 24, .inl (z.2.1 12))),
  (q 28, .inl (cA 28, 100, .inl (z.2.1 13))),
  (q 29, .inl (cA 29, 24, .inl (z.2.1 14))),
  (q 30, .inl (cA 30, 16, .inl (z.2.1 15))),
  (q 31, .inl (cA 31, 480, .inl (z.2.1 16))),
  (q 32, .inl (cA 32, 64, .inl (z.2.1 17))),
  (q 33, .inl (cA 33, 24, .inl (z.2.1 18))),
  (q 34, .inl (cA 34, 24, .inl (z.2.1 19))),
  (q 35, .inl (cA 35, 24, .inl (z.2.1 20))),
  (q 36, .inl (cA 36, 16, .inl (z.2.1 21))),
  (q 37, .inl (cA 37, 96, .inl (z.2.1 22))),
  (q 38, .inl (cA 38, 257, .inl (z.2.1 23))),
  (q 39, .inl (cA 39, 16, .inl (z.2.1 24))),
  (q 40, .inl (cA 40, 16, .inl (z.2.1 25))),
  (q 41, .inl (cA 41, 16, .inl (z.2.1 26))),
  (q 42, .inl (cA 42, 16, .inl (z.2.1 27))),
  (q 43, .inl (cA 43, 16, .inl (z.2.1 28))),
  (q 44, .inl (cA 44, 16, .inl (z.2.1 29))),
  (q 45, .inl (cA 45, 16, .inl (z.2.1 30))),
  (q 46, .inl (cA 46, 16, .inl (z.2.1 31))),
  (q 47, .inl (cA 47, 6, .inl (z.2.1 32))),
  (q 48, .inl (cA 48, 24, .inl (z.2.1 33))),
  (q 49, .inl (cA 49, 24, .inl (z.2.1 34))),
  (q 50, .inl (cA 50, 100, .inl (z.2.1 35))),
  (q 51, .inl (cA 51, 1, .inr (.inl (z.2.2 10))))]
def tysW (cA : Nat → ClassId) : List (ClassId × FieldType) := [(cA 5, .int), (cA 6, .int), (cA 7, .int), (cA 8, .int), (cA 9, .int), (cA 10, .int), (cA 11, .int), (cA 12, .int), (cA 13, .int), (cA 14, .int), (cA 15, .long), (cA 16, .boolean), (cA 17, .long), (cA 18, .long), (cA 19, .long), (cA 20, .long), (cA 21, .long), (cA 22, .long), (cA 23, .long), (cA 24, .long), (cA 25, .long), (cA 26, .int), (cA 27, .int), (cA 28, .int), (cA 29, .int), (cA 30, .int), (cA 31, .int), (cA 32, .int), (cA 33, .int), (cA 34, .int), (cA 35, .int), (cA 36, .boolean), (cA 37, .int), (cA 38, .int), (cA 39, .boolean), (cA 40, .boolean), (cA 41, .boolean), (cA 42, .boolean), (cA 43, .boolean), (cA 44, .boolean), (cA 45, .boolean), (cA 46, .boolean), (cA 47, .int), (cA 48, .int), (cA 49, .int), (cA 50, .int), (cA 51, .long)]
theorem ks_5 (q : Nat → Nat) (cA : Nat → ClassId) (z : Sta) : ∀ f : Nat → Int32, (wW q cA z).set 5 (q 5, .inl (cA 5, 16, .inl f)) = wW q cA (zA z 0 f) := fun _ => rfl
theorem ks_6 (q : Nat → Nat) (cA : Nat → ClassId) (z : Sta) : ∀ f : Nat → Int32, (wW q cA z).set 6 (q 6, .inl (cA 6, 80, .inl f)) = wW q cA (zA z 1 f) := fun _ => rfl
theorem ks_7 (q : Nat → Nat) (cA : Nat → ClassId) (z : Sta) : ∀ f : Nat → Int32, (wW q cA z).set 7 (q 7, .inl (cA 7, 80, .inl f)) = wW q cA (zA z 2 f) := fun _ => rfl
theorem ks_8 (q : Nat → Nat) (cA : Nat → ClassId) (z : Sta) : ∀ f : Nat → Int32, (wW q cA z).set 8 (q 8, .inl (cA 8, 80, .inl f)) = wW q cA (zA z 3 f) := fun _ => rfl
theorem ks_9 (q : Nat → Nat) (cA : Nat → ClassId) (z : Sta) : ∀ f : Nat → Int32, (wW q cA z).set 9 (q 9, .inl (cA 9, 16, .inl f)) = wW q cA (zA z 4 f) := fun _ => rfl
theorem ks_10 (q : Nat → Nat) (cA : Nat → ClassId) (z : Sta) : ∀ f : Nat → Int32, (wW q cA z).set 10 (q 10, .inl (cA 10, 16, .inl f)) = wW q cA (zA z 5 f) := fun _ => rfl
theorem ks_11 (q : Nat → Nat) (cA : Nat → ClassId) (z : Sta) : ∀ f : Nat → Int32, (wW q cA z).set 11 (q 11, .inl (cA 11, 16, .inl f)) = wW q cA (zA z 6 f) := fun _ => rfl
theorem ks_12 (q : Nat → Nat) (cA : Nat → ClassId) (z : Sta) : ∀ f : Nat → Int32, (wW q cA z).set 12 (q 12, .inl (cA 12, 24, .inl f)) = wW q cA (zA z 7 f) := fun _ => rfl
theorem ks_13 (q : Nat → Nat) (cA : Nat → ClassId) (z : Sta) : ∀ f : Nat → Int32, (wW q cA z).set 13 (q 13, .inl (cA 13, 24, .inl f)) = wW q cA (zA z 8 f) := fun _ => rfl
theorem ks_14 (q : Nat → Nat) (cA : Nat → ClassId) (z : Sta) : ∀ f : Nat → Int32, (wW q cA z).set 14 (q 14, .inl (cA 14, 24, .inl f)) = wW q cA (zA z 9 f) := fun _ => rfl
theorem ks_15 (q : Nat → Nat) (cA : Nat → ClassId) (z : Sta) : ∀ f : Nat → Int64, (wW q cA z).set 15 (q 15, .inl (cA 15, 6, .inr (.inl f))) = wW q cA (zL z 0 f) := fun _ => rfl
theorem ks_16 (q : Nat → Nat) (cA : Nat → ClassId) (z : Sta) : ∀ f : Nat → Int32, (wW q cA z).set 16 (q 16, .inl (cA 16, 16, .inl f)) = wW q cA (zA z 10 f) := fun _ => rfl
theorem ks_17 (q : Nat → Nat) (cA : Nat → ClassId) (z : Sta) : ∀ f : Nat → Int64, (wW q cA z).set 17 (q 17, .inl (cA 17, 16, .inr (.inl f))) = wW q cA (zL z 1 f) := fun _ => rfl
theorem ks_18 (q : Nat → Nat) (cA : Nat → ClassId) (z : Sta) : ∀ f : Nat → Int64, (wW q cA z).set 18 (q 18, .inl (cA 18, 16, .inr (.inl f))) = wW q cA (zL z 2 f) := fun _ => rfl
theorem ks_19 (q : Nat → Nat) (cA : Nat → ClassId) (z : Sta) : ∀ f : Nat → Int64, (wW q cA z).set 19 (q 19, .inl (cA 19, 16, .inr (.inl f))) = wW q cA (zL z 3 f) := fun _ => rfl
theorem ks_20 (q : Nat → Nat) (cA : Nat → ClassId) (z : Sta) : ∀ f : Nat → Int64, (wW q cA z).set 20 (q 20, .inl (cA 20, 16, .inr (.inl f))) = wW q cA (zL z 4 f) := fun _ => rfl
theorem ks_21 (q : Nat → Nat) (cA : Nat → ClassId) (z : Sta) : ∀ f : Nat → Int64, (wW q cA z).set 21 (q 21, .inl (cA 21, 16, .inr (.inl f))) = wW q cA (zL z 5 f) := fun _ => rfl
theorem ks_22 (q : Nat → Nat) (cA : Nat → ClassId) (z : Sta) : ∀ f : Nat → Int64, (wW q cA z).set 22 (q 22, .inl (cA 22, 16, .inr (.inl f))) = wW q cA (zL z 6 f) := fun _ => rfl
theorem ks_23 (q : Nat → Nat) (cA : Nat → ClassId) (z : Sta) : ∀ f : Nat → Int64, (wW q cA z).set 23 (q 23, .inl (cA 23, 16, .inr (.inl f))) = wW q cA (zL z 7 f) := fun _ => rfl
theorem ks_24 (q : Nat → Nat) (cA : Nat → ClassId) (z : Sta) : ∀ f : Nat → Int64, (wW q cA z).set 24 (q 24, .inl (cA 24, 16, .inr (.inl f))) = wW q cA (zL z 8 f) := fun _ => rfl
theorem ks_25 (q : Nat → Nat) (cA : Nat → ClassId) (z : Sta) : ∀ f : Nat → Int64, (wW q cA z).set 25 (q 25, .inl (cA 25, 16, .inr (.inl f))) = wW q cA (zL z 9 f) := fun _ => rfl
theorem ks_26 (q : Nat → Nat) (cA : Nat → ClassId) (z : Sta) : ∀ f : Nat → Int32, (wW q cA z).set 26 (q 26, .inl (cA 26, 6, .inl f)) = wW q cA (zA z 11 f) := fun _ => rfl
theorem ks_27 (q : Nat → Nat) (cA : Nat → ClassId) (z : Sta) : ∀ f : Nat → Int32, (wW q cA z).set 27 (q 27, .inl (cA 27, 24, .inl f)) = wW q cA (zA z 12 f) := fun _ => rfl
theorem ks_28 (q : Nat → Nat) (cA : Nat → ClassId) (z : Sta) : ∀ f : Nat → Int32, (wW q cA z).set 28 (q 28, .inl (cA 28, 100, .inl f)) = wW q cA (zA z 13 f) := fun _ => rfl
theorem ks_29 (q : Nat → Nat) (cA : Nat → ClassId) (z : Sta) : ∀ f : Nat → Int32, (wW q cA z).set 29 (q 29, .inl (cA 29, 24, .inl f)) = wW q cA (zA z 14 f) := fun _ => rfl
theorem ks_30 (q : Nat → Nat) (cA : Nat → ClassId) (z : Sta) : ∀ f : Nat → Int32, (wW q cA z).set 30 (q 30, .inl (cA 30, 16, .inl f)) = wW q cA (zA z 15 f) := fun _ => rfl
theorem ks_31 (q : Nat → Nat) (cA : Nat → ClassId) (z : Sta) : ∀ f : Nat → Int32, (wW q cA z).set 31 (q 31, .inl (cA 31, 480, .inl f)) = wW q cA (zA z 16 f) := fun _ => rfl
theorem ks_32 (q : Nat → Nat) (cA : Nat → ClassId) (z : Sta) : ∀ f : Nat → Int32, (wW q cA z).set 32 (q 32, .inl (cA 32, 64, .inl f)) = wW q cA (zA z 17 f) := fun _ => rfl
theorem ks_33 (q : Nat → Nat) (cA : Nat → ClassId) (z : Sta) : ∀ f : Nat → Int32, (wW q cA z).set 33 (q 33, .inl (cA 33, 24, .inl f)) = wW q cA (zA z 18 f) := fun _ => rfl
theorem ks_34 (q : Nat → Nat) (cA : Nat → ClassId) (z : Sta) : ∀ f : Nat → Int32, (wW q cA z).set 34 (q 34, .inl (cA 34, 24, .inl f)) = wW q cA (zA z 19 f) := fun _ => rfl
theorem ks_35 (q : Nat → Nat) (cA : Nat → ClassId) (z : Sta) : ∀ f : Nat → Int32, (wW q cA z).set 35 (q 35, .inl (cA 35, 24, .inl f)) = wW q cA (zA z 20 f) := fun _ => rfl
theorem ks_36 (q : Nat → Nat) (cA : Nat → ClassId) (z : Sta) : ∀ f : Nat → Int32, (wW q cA z).set 36 (q 36, .inl (cA 36, 16, .inl f)) = wW q cA (zA z 21 f) := fun _ => rfl
theorem ks_37 (q : Nat → Nat) (cA : Nat → ClassId) (z : Sta) : ∀ f : Nat → Int32, (wW q cA z).set 37 (q 37, .inl (cA 37, 96, .inl f)) = wW q cA (zA z 22 f) := fun _ => rfl
theorem ks_38 (q : Nat → Nat) (cA : Nat → ClassId) (z : Sta) : ∀ f : Nat → Int32, (wW q cA z).set 38 (q 38, .inl (cA 38, 257, .inl f)) = wW q cA (zA z 23 f) := fun _ => rfl
theorem ks_39 (q : Nat → Nat) (cA : Nat → ClassId) (z : Sta) : ∀ f : Nat → Int32, (wW q cA z).set 39 (q 39, .inl (cA 39, 16, .inl f)) = wW q cA (zA z 24 f) := fun _ => rfl
theorem ks_40 (q : Nat → Nat) (cA : Nat → ClassId) (z : Sta) : ∀ f : Nat → Int32, (wW q cA z).set 40 (q 40, .inl (cA 40, 16, .inl f)) = wW q cA (zA z 25 f) := fun _ => rfl
theorem ks_41 (q : Nat → Nat) (cA : Nat → ClassId) (z : Sta) : ∀ f : Nat → Int32, (wW q cA z).set 41 (q 41, .inl (cA 41, 16, .inl f)) = wW q cA (zA z 26 f) := fun _ => rfl
theorem ks_42 (q : Nat → Nat) (cA : Nat → ClassId) (z : Sta) : ∀ f : Nat → Int32, (wW q cA z).set 42 (q 42, .inl (cA 42, 16, .inl f)) = wW q cA (zA z 27 f) := fun _ => rfl
theorem ks_43 (q : Nat → Nat) (cA : Nat → ClassId) (z : Sta) : ∀ f : Nat → Int32, (wW q cA z).set 43 (q 43, .inl (cA 43, 16, .inl f)) = wW q cA (zA z 28 f) := fun _ => rfl
theorem ks_44 (q : Nat → Nat) (cA : Nat → ClassId) (z : Sta) : ∀ f : Nat → Int32, (wW q cA z).set 44 (q 44, .inl (cA 44, 16, .inl f)) = wW q cA (zA z 29 f) := fun _ => rfl
theorem ks_45 (q : Nat → Nat) (cA : Nat → ClassId) (z : Sta) : ∀ f : Nat → Int32, (wW q cA z).set 45 (q 45, .inl (cA 45, 16, .inl f)) = wW q cA (zA z 30 f) := fun _ => rfl
theorem ks_46 (q : Nat → Nat) (cA : Nat → ClassId) (z : Sta) : ∀ f : Nat → Int32, (wW q cA z).set 46 (q 46, .inl (cA 46, 16, .inl f)) = wW q cA (zA z 31 f) := fun _ => rfl
theorem ks_47 (q : Nat → Nat) (cA : Nat → ClassId) (z : Sta) : ∀ f : Nat → Int32, (wW q cA z).set 47 (q 47, .inl (cA 47, 6, .inl f)) = wW q cA (zA z 32 f) := fun _ => rfl
theorem ks_48 (q : Nat → Nat) (cA : Nat → ClassId) (z : Sta) : ∀ f : Nat → Int32, (wW q cA z).set 48 (q 48, .inl (cA 48, 24, .inl f)) = wW q cA (zA z 33 f) := fun _ => rfl
theorem ks_49 (q : Nat → Nat) (cA : Nat → ClassId) (z : Sta) : ∀ f : Nat → Int32, (wW q cA z).set 49 (q 49, .inl (cA 49, 24, .inl f)) = wW q cA (zA z 34 f) := fun _ => rfl
theorem ks_50 (q : Nat → Nat) (cA : Nat → ClassId) (z : Sta) : ∀ f : Nat → Int32, (wW q cA z).set 50 (q 50, .inl (cA 50, 100, .inl f)) = wW q cA (zA z 35 f) := fun _ => rfl
theorem ks_51 (q : Nat → Nat) (cA : Nat → ClassId) (z : Sta) : ∀ f : Nat → Int64, (wW q cA z).set 51 (q 51, .inl (cA 51, 1, .inr (.inl f))) = wW q cA (zL z 10 f) := fun _ => rfl
/-- the machine's heap H holds the state z, nothing but A has changed since H0 -/
def wk_S (D : va_G) (q : Nat → Nat) (cA : Nat → ClassId) (A : Nat → Prop) (H0 : Heap) (z : Sta) (H : Heap) (locs : List Loc) : Prop := va_P D wk_cl (wW q cA z) H ∧ va_D A (wW q cA z) ∧ va_S A H0 H locs
def wk_B (D : va_G) (q : Nat → Nat) (cA : Nat → ClassId) (A : Nat → Prop) (u : Sta) (t : State) : Prop := va_P D wk_cl (wW q cA u) t.heap ∧ va_K D wk_cl (tysW cA) t ∧ va_D A (wW q cA u)
def wk_Pc (D : va_G) (q : Nat → Nat) (cA : Nat → ClassId) (av : List Value) (z : Sta) (sz : Nat) : Array Value → State → Prop := va_Pc av (fun U => U.heap.size = sz ∧ va_P D wk_cl (wW q cA z) U.heap ∧ va_K D wk_cl (tysW cA) U ∧ va_D (fun _ => True) (wW q cA z))
theorem wk_gV {own C : String} {idx : Nat} {y : MethodName} {cd : Cond} (h1 : Cond.methodLink own idx y ∈ lw_g) (h2 : Cond.instanceMethod y ∈ lw_g) (h3 : Cond.selects C y y ∈ lw_g) (h4 : Cond.initialized C ∈ lw_g) (h5 : cd ∈ lw_g) : GoodIn lw_g (wsV own idx C y (cd :: lw_g)) := by
  have key : ∀ w ∈ wsV own idx C y (cd :: lw_g), w ∈ lw_g := by
    intro w hw
    simp only [wsV, List.mem_append, List.mem_cons, List.not_mem_nil, or_false] at hw
    rcases hw with (rfl | rfl | rfl | rfl) | rfl | hw <;> assumption
  exact fun w hw => ⟨key w hw, wk_good w (key w hw)⟩
theorem wk_gS {own : String} {idx : Nat} {y : MethodName} {cd : Cond} (h1 : Cond.methodLink own idx y ∈ lw_g) (h2 : Cond.static y ∈ lw_g) (h3 : Cond.initialized own ∈ lw_g) (h5 : cd ∈ lw_g) : GoodIn lw_g (wsS own idx y (cd :: lw_g)) := by
  have key : ∀ w ∈ wsS own idx y (cd :: lw_g), w ∈ lw_g := by
    intro w hw
    simp only [wsS, List.mem_append, List.mem_cons, List.not_mem_nil, or_false] at hw
    rcases hw with (rfl | rfl | rfl) | rfl | hw <;> assumption
  exact fun w hw => ⟨key w hw, wk_good w (key w hw)⟩
theorem wk_gSU {own : String} {idx : Nat} {y : MethodName} {cd : Cond} (h1 : Cond.methodLink own idx y ∈ lw_g) (h2 : Cond.static y ∈ lw_g) (h3 : Cond.initialized y.cls ∈ lw_g) (h5 : cd ∈ lw_g) : GoodIn lw_g (va_wsS own idx y (cd :: lw_g)) := by
  have key : ∀ w ∈ va_wsS own idx y (cd :: lw_g), w ∈ lw_g := by
    intro w hw
    simp only [va_wsS, List.mem_append, List.mem_cons, List.not_mem_nil, or_false] at hw
    rcases hw with (rfl | rfl | rfl) | rfl | hw <;> assumption
  exact fun w hw => ⟨key w hw, wk_good w (key w hw)⟩
section
variable {p : Program} {l : Launch} {e : Env} {R : Room} {s : State} {m : MethodId} {args : Array Value} {below : List Frame} {meth : Method} {c : Code} {H H0 : Heap} {locs : List Loc} {cells slots : Nat} {Q : State → Prop} {cc : ByteArray} {pc : Nat} {ls : Array Slot} {rest st0 : List Value} {D : va_G} {q : Nat → Nat} {cA : Nat → ClassId} {A : Nat → Prop} {z : Sta} {a : Nat}
theorem wk_free (hV : wk_S D q cA A H0 z H locs) (hA : ∀ x, H0.size ≤ x → A x) : ∀ x, va_A (wW q cA z) H.size x → A x := by
  intro x hx
  rcases hx with ⟨k, en, hk⟩ | hx
  · exact hV.2.1.2 k _ hk
  · exact hA x (Nat.le_trans hV.2.2.1 hx)
theorem wk_blind (av : List Value) (sz : Nat) : FrameBlind (wk_Pc D q cA av z sz) := by
  intro a U g mk h
  obtain ⟨h0, h1, h2, h3, h4⟩ := h
  exact ⟨h0, h1, h2, va_K.moved (u := U) (U := U.calling g mk a) (Vm.Alike.refl U.vm) h3, h4⟩
theorem wk_preS (hK : va_K D wk_cl (tysW cA) s) (hV : wk_S D q cA A H0 z H locs) (As : List Value) : PreS s H (wk_Pc D q cA As z H.size) As :=
  ⟨wk_blind As H.size, fun U hU hW => ⟨rfl, by rw [hU], by rw [hU]; exact hV.1, va_K.moved hW.alike hK, hV.2.1.weaken (fun _ _ _ _ => trivial)⟩⟩
theorem wk_preV (hK : va_K D wk_cl (tysW cA) s) (hV : wk_S D q cA A H0 z H locs) (q0 ci : Nat) {fs : List Value} {r : vw_C} (hc : wk_cl[ci]? = some r) (he : (wW q cA z)[q0]? = some (a, .inr (ci, fs))) (As : List Value) : PreV s H r.1 a (wk_Pc D q cA (.ref a :: As) z H.size) As :=
  ⟨wk_blind _ H.size, va_recv hK hV.1 hc he, fun U hU hW => ⟨rfl, by rw [hU], by rw [hU]; exact hV.1, va_K.moved hW.alike hK, hV.2.1.weaken (fun _ _ _ _ => trivial)⟩⟩
theorem wk_calli {K : Int32 → Sta → Prop} {av : Array Value} (hr : va_Run p l e R s m args below meth c H locs cells slots 0 0 (F0 m pc ls st0) rest (va_Qi K (wk_B D q cA (va_A (wW q cA z) H.size)) (va_A (wW q cA z) H.size) av) (va_A (wW q cA z) H.size)) (hV : wk_S D q cA A H0 z H locs) (hA : ∀ x, H0.size ≤ x → A x)
    (kk : ∀ (r : Int32) (u : Sta) (H1 : Heap) (locs1 : List Loc), K r u → wk_S D q cA A H0 u H1 locs1 → W p l e R s m args below meth c H1 locs1 cells slots Q (F0 m (pc + 3) ls (.int r :: rest))) : W p l e R s m args below meth c H locs cells slots Q (F0 m pc ls st0) :=
  va_calli hr hV.2.2 (fun x _ h => wk_free hV hA x h) (wk_free hV hA) (fun r u t H1 locs1 ht _ hp hB _ _ hS => kk r u H1 locs1 hp ⟨by rw [← ht]; exact hB.1, hB.2.2.weaken (fun k p9 h9 h => wk_free hV hA _ h), hS⟩)
theorem wk_calll {K : Int64 → Sta → Prop} {av : Array Value} (hr : va_Run p l e R s m args below meth c H locs cells slots 0 0 (F0 m pc ls st0) rest (va_Ql K (wk_B D q cA (va_A (wW q cA z) H.size)) (va_A (wW q cA z) H.size) av) (va_A (wW q cA z) H.size)) (hV : wk_S D q cA A H0 z H locs) (hA : ∀ x, H0.size ≤ x → A x)
    (kk : ∀ (r : Int64) (u : Sta) (H1 : Heap) (locs1 : List Loc), K r u → wk_S D q cA A H0 u H1 locs1 → W p l e R s m args below meth c H1 locs1 cells slots Q (F0 m (pc + 3) ls (.long r :: rest))) : W p l e R s m args below meth c H locs cells slots Q (F0 m pc ls st0) :=
  va_calll hr hV.2.2 (fun x _ h => wk_free hV hA x h) (wk_free hV hA) (fun r u t H1 locs1 ht _ hp hB _ _ hS => kk r u H1 locs1 hp ⟨by rw [← ht]; exact hB.1, hB.2.2.weaken (fun k p9 h9 h => wk_free hV hA _ h), hS⟩)
theorem wk_callv {K : Sta → Prop} {av : Array Value} (hr : va_Run p l e R s m args below meth c H locs cells slots 0 0 (F0 m pc ls st0) rest (va_Qv K (wk_B D q cA (va_A (wW q cA z) H.size)) (va_A (wW q cA z) H.size) av) (va_A (wW q cA z) H.size)) (hV : wk_S D q cA A H0 z H locs) (hA : ∀ x, H0.size ≤ x → A x)
    (kk : ∀ (u : Sta) (H1 : Heap) (locs1 : List Loc), K u → wk_S D q cA A H0 u H1 locs1 → W p l e R s m args below meth c H1 locs1 cells slots Q (F0 m (pc + 3) ls rest)) : W p l e R s m args below meth c H locs cells slots Q (F0 m pc ls st0) :=
  va_callv hr hV.2.2 (fun x _ h => wk_free hV hA x h) (wk_free hV hA) (fun u t H1 locs1 ht _ hp hB _ _ hS => kk u H1 locs1 hp ⟨by rw [← ht]; exact hB.1, hB.2.2.weaken (fun k p9 h9 h => wk_free hV hA _ h), hS⟩)
theorem wk_iast (hexec : p.tables.exec = Jvm.exec) (hb : c.code = cc) (hK : va_K D wk_cl (tysW cA) s) (hV : wk_S D q cA A H0 z H locs) (q0 t0 j : Nat) {cB : ClassId} {n : Nat} {f : Nat → Int32} (ha : (wW q cA z)[q0]? = some (a, .inl (cB, n, .inl f))) (ht : (tysW cA)[t0]? = some (cB, .int))
    (hset : ∀ g : Nat → Int32, (wW q cA z).set q0 (a, .inl (cB, n, .inl g)) = wW q cA (zA z j g)) {i x : Int32} (hin : vp_in i n) (hdg : decode cc pc = .ok (.iastore, 1))
    (kk : ∀ (H1 : Heap) (locs1 : List Loc), wk_S D q cA A H0 (zA z j (upd f i.toNatClampNeg x)) H1 locs1 → W p l e R s m args below meth c H1 locs1 cells slots Q (F0 m (pc + 1) ls rest)) : W p l e R s m args below meth c H locs cells slots Q (F0 m pc ls (.int x :: .int i :: .ref a :: rest)) :=
  va_iast hexec hb hK hV.1 hV.2.1 hV.2.2 q0 t0 ha ht hin hdg (fun H1 locs1 hP hD hS => kk H1 locs1 ⟨by rw [← hset]; exact hP, by rw [← hset]; exact hD, hS⟩)
theorem wk_zast (hexec : p.tables.exec = Jvm.exec) (hb : c.code = cc) (hK : va_K D wk_cl (tysW cA) s) (hV : wk_S D q cA A H0 z H locs) (q0 t0 j : Nat) {cB : ClassId} {n : Nat} {f : Nat → Int32} (ha : (wW q cA z)[q0]? = some (a, .inl (cB, n, .inl f))) (ht : (tysW cA)[t0]? = some (cB, .boolean))
    (hset : ∀ g : Nat → Int32, (wW q cA z).set q0 (a, .inl (cB, n, .inl g)) = wW q cA (zA z j g)) {i x : Int32} (hin : vp_in i n) (hdg : decode cc pc = .ok (.bastore, 1))
    (kk : ∀ (H1 : Heap) (locs1 : List Loc), wk_S D q cA A H0 (zA z j (upd f i.toNatClampNeg (vp_nar .boolean x))) H1 locs1 → W p l e R s m args below meth c H1 locs1 cells slots Q (F0 m (pc + 1) ls rest)) : W p l e R s m args below meth c H locs cells slots Q (F0 m pc ls (.int x :: .int i :: .ref a :: rest)) :=
  va_zast hexec hb hK hV.1 hV.2.1 hV.2.2 q0 t0 ha ht hin hdg (fun H1 locs1 hP hD hS => kk H1 locs1 ⟨by rw [← hset]; exact hP, by rw [← hset]; exact hD, hS⟩)
theorem wk_last (hexec : p.tables.exec = Jvm.exec) (hb : c.code = cc) (hK : va_K D wk_cl (tysW cA) s) (hV : wk_S D q cA A H0 z H locs) (q0 t0 j : Nat) {cB : ClassId} {n : Nat} {f : Nat → Int64} (ha : (wW q cA z)[q0]? = some (a, .inl (cB, n, .inr (.inl f)))) (ht : (tysW cA)[t0]? = some (cB, .long))
    (hset : ∀ g : Nat → Int64, (wW q cA z).set q0 (a, .inl (cB, n, .inr (.inl g))) = wW q cA (zL z j g)) {i : Int32} {x : Int64} (hin : vp_in i n) (hdg : decode cc pc = .ok (.lastore, 1))
    (kk : ∀ (H1 : Heap) (locs1 : List Loc), wk_S D q cA A H0 (zL z j (vp_updL f i.toNatClampNeg x)) H1 locs1 → W p l e R s m args below meth c H1 locs1 cells slots Q (F0 m (pc + 1) ls rest)) : W p l e R s m args below meth c H locs cells slots Q (F0 m pc ls (.long x :: .int i :: .ref a :: rest)) :=
  va_last hexec hb hK hV.1 hV.2.1 hV.2.2 q0 t0 ha ht hin hdg (fun H1 locs1 hP hD hS => kk H1 locs1 ⟨by rw [← hset]; exact hP, by rw [← hset]; exact hD, hS⟩)
theorem wk_put {own ref C : String} {T : u_T} {N ci index : Nat} {Ts : List Cond} {ty : FieldType} {v : Value} {z1 : Sta} (hexec : p.tables.exec = Jvm.exec) (hb : c.code = cc) (hts : ∀ w ∈ Ts, w.before args s = true) (hin : ∀ w ∈ u_ws C T N, w ∈ Ts) (ty0 : Nat → FieldType) (hty : ∀ k, k < N → parseFieldDescriptor (T k).2.2.1 = some (ty0 k)) (hnm : ∀ a, a < N → ∀ b, b < N → a ≠ b → (T a).2.1 ≠ (T b).2.1) (hown : s.vm.findClass own = some m.cls) (hK : va_K D wk_cl (tysW cA) s) (hV : wk_S D q cA A H0 z H locs) (q0 : Nat) {fs : List Value} (he : (wW q cA z)[q0]? = some (a, .inr (ci, fs))) (hc : wk_cl[ci]? = some (C, T, N)) (k : Nat) (hk : k < N) (hlink : (Cond.fieldLink own index ref (T k).2.1 (T k).2.2.1).before args s = true) (hsame : ∀ x, s.fieldFound? (T k).1 (T k).2.1 (T k).2.2.1 = some x → s.fieldFound? ref (T k).2.1 (T k).2.2.1 = some x) (hfin : (T k).2.2.2 = false) (hd : parseFieldDescriptor (T k).2.2.1 = some ty) (hn : narrow ty v = v) (hfit : fits ty v = true) (hl : k < fs.length) (hset : (wW q cA z).set q0 (a, .inr (ci, fs.set k v)) = wW q cA z1) (hdg : decode cc pc = .ok (.putfield index, 3))
    (kk : ∀ (H1 : Heap) (locs1 : List Loc), wk_S D q cA A H0 z1 H1 locs1 → W p l e R s m args below meth c H1 locs1 cells slots Q (F0 m (pc + 3) ls rest)) : W p l e R s m args below meth c H locs cells slots Q (F0 m pc ls (v :: .ref a :: rest)) :=
  va_put hexec hb hts hin ty0 hty hnm hown hK hV.1 hV.2.1 hV.2.2 q0 he hc k hk hlink hsame hfin hd hn hfit hl hdg (fun H1 locs1 hP hD hS => kk H1 locs1 ⟨by rw [← hset]; exact hP, by rw [← hset]; exact hD, hS⟩)
end
end
section
-- the words that are used, by their places in tables_1
theorem hs_1 : Cond.selects "LazyMotion$Motion" ⟨"LazyMotion$Motion", "findReached", "()V"⟩ ⟨"LazyMotion$Motion", "findReached", "()V"⟩ ∈ lw_g := wk_is 1 (by decide +kernel) (by decide +kernel)
theorem hs_2 : Cond.selects "LazyMotion$Motion" ⟨"LazyMotion$Motion", "reach", "(I)Z"⟩ ⟨"LazyMotion$Motion", "reach", "(I)Z"⟩ ∈ lw_g := wk_is 2 (by decide +kernel) (by decide +kernel)
theorem hs_3 : Cond.selects "LazyMotion$Motion" ⟨"LazyMotion$Motion", "readBlock", "(I)V"⟩ ⟨"LazyMotion$Motion", "readBlock", "(I)V"⟩ ∈ lw_g := wk_is 3 (by decide +kernel) (by decide +kernel)
theorem hs_4 : Cond.selects "LazyMotion$Motion" ⟨"LazyMotion$Motion", "fillSets", "(I)V"⟩ ⟨"LazyMotion$Motion", "fillSets", "(I)V"⟩ ∈ lw_g := wk_is 4 (by decide +kernel) (by decide +kernel)
theorem hs_5 : Cond.selects "LazyMotion$Motion" ⟨"LazyMotion$Motion", "flowThere", "()V"⟩ ⟨"LazyMotion$Motion", "flowThere", "()V"⟩ ∈ lw_g := wk_is 5 (by decide +kernel) (by decide +kernel)
theorem hs_6 : Cond.selects "LazyMotion$Motion" ⟨"LazyMotion$Motion", "flowWanted", "()V"⟩ ⟨"LazyMotion$Motion", "flowWanted", "()V"⟩ ∈ lw_g := wk_is 6 (by decide +kernel) (by decide +kernel)
theorem hs_7 : Cond.selects "LazyMotion$Motion" ⟨"LazyMotion$Motion", "wantedByAll", "(II)J"⟩ ⟨"LazyMotion$Motion", "wantedByAll", "(II)J"⟩ ∈ lw_g := wk_is 7 (by decide +kernel) (by decide +kernel)
theorem hs_8 : Cond.selects "LazyMotion$Motion" ⟨"LazyMotion$Motion", "flowLate", "()V"⟩ ⟨"LazyMotion$Motion", "flowLate", "()V"⟩ ∈ lw_g := wk_is 8 (by decide +kernel) (by decide +kernel)
theorem hs_9 : Cond.selects "LazyMotion$Motion" ⟨"LazyMotion$Motion", "laterOn", "(II)J"⟩ ⟨"LazyMotion$Motion", "laterOn", "(II)J"⟩ ∈ lw_g := wk_is 9 (by decide +kernel) (by decide +kernel)
theorem hs_10 : Cond.selects "LazyMotion$Motion" ⟨"LazyMotion$Motion", "narrowLate", "(II)Z"⟩ ⟨"LazyMotion$Motion", "narrowLate", "(II)Z"⟩ ∈ lw_g := wk_is 10 (by decide +kernel) (by decide +kernel)
theorem hs_11 : Cond.selects "LazyMotion$Machine" ⟨"LazyMotion$Machine", "goAlong", "(J)V"⟩ ⟨"LazyMotion$Machine", "goAlong", "(J)V"⟩ ∈ lw_g := wk_is 11 (by decide +kernel) (by decide +kernel)
theorem hs_12 : Cond.selects "LazyMotion$Machine" ⟨"LazyMotion$Machine", "compute", "(I)I"⟩ ⟨"LazyMotion$Machine", "compute", "(I)I"⟩ ∈ lw_g := wk_is 12 (by decide +kernel) (by decide +kernel)
theorem hs_13 : Cond.selects "LazyMotion$Machine" ⟨"LazyMotion$Machine", "goThroughBlock", "(IJ)V"⟩ ⟨"LazyMotion$Machine", "goThroughBlock", "(IJ)V"⟩ ∈ lw_g := wk_is 13 (by decide +kernel) (by decide +kernel)
theorem hs_14 : Cond.selects "LazyMotion$Machine" ⟨"LazyMotion$Machine", "goThroughSimple", "(III)V"⟩ ⟨"LazyMotion$Machine", "goThroughSimple", "(III)V"⟩ ∈ lw_g := wk_is 14 (by decide +kernel) (by decide +kernel)
theorem hs_15 : Cond.selects "LazyMotion$Machine" ⟨"LazyMotion$Machine", "giveOut", "(I)V"⟩ ⟨"LazyMotion$Machine", "giveOut", "(I)V"⟩ ∈ lw_g := wk_is 15 (by decide +kernel) (by decide +kernel)
theorem hs_16 : Cond.selects "LazyMotionModel" ⟨"LazyMotionModel", "fail", "(I)I"⟩ ⟨"LazyMotionModel", "fail", "(I)I"⟩ ∈ lw_g := wk_is 16 (by decide +kernel) (by decide +kernel)
theorem hs_17 : Cond.selects "LazyMotionModel" ⟨"LazyMotionModel", "find", "(III)I"⟩ ⟨"LazyMotionModel", "find", "(III)I"⟩ ∈ lw_g := wk_is 17 (by decide +kernel) (by decide +kernel)
theorem hs_18 : Cond.selects "LazyMotionModel" ⟨"LazyMotionModel", "whole", "()Z"⟩ ⟨"LazyMotionModel", "whole", "()Z"⟩ ∈ lw_g := wk_is 18 (by decide +kernel) (by decide +kernel)
theorem hs_19 : Cond.selects "LazyMotionModel" ⟨"LazyMotionModel", "next", "(II)I"⟩ ⟨"LazyMotionModel", "next", "(II)I"⟩ ∈ lw_g := wk_is 19 (by decide +kernel) (by decide +kernel)
theorem hs_20 : Cond.selects "LazyMotionModel" ⟨"LazyMotionModel", "reach", "()V"⟩ ⟨"LazyMotionModel", "reach", "()V"⟩ ∈ lw_g := wk_is 20 (by decide +kernel) (by decide +kernel)
theorem hs_21 : Cond.selects "LazyMotionModel" ⟨"LazyMotionModel", "plans", "(I)V"⟩ ⟨"LazyMotionModel", "plans", "(I)V"⟩ ∈ lw_g := wk_is 21 (by decide +kernel) (by decide +kernel)
theorem hs_22 : Cond.selects "LazyMotionModel" ⟨"LazyMotionModel", "look", "(II)V"⟩ ⟨"LazyMotionModel", "look", "(II)V"⟩ ∈ lw_g := wk_is 22 (by decide +kernel) (by decide +kernel)
theorem hs_23 : Cond.selects "LazyMotionModel" ⟨"LazyMotionModel", "gives", "(II)Z"⟩ ⟨"LazyMotionModel", "gives", "(II)Z"⟩ ∈ lw_g := wk_is 23 (by decide +kernel) (by decide +kernel)
theorem hs_24 : Cond.selects "LazyMotionModel" ⟨"LazyMotionModel", "settle", "(I)V"⟩ ⟨"LazyMotionModel", "settle", "(I)V"⟩ ∈ lw_g := wk_is 24 (by decide +kernel) (by decide +kernel)
theorem hs_25 : Cond.selects "LazyMotionModel" ⟨"LazyMotionModel", "thereBefore", "(I)Z"⟩ ⟨"LazyMotionModel", "thereBefore", "(I)Z"⟩ ∈ lw_g := wk_is 25 (by decide +kernel) (by decide +kernel)
theorem hs_26 : Cond.selects "LazyMotionModel" ⟨"LazyMotionModel", "edge", "(II)Z"⟩ ⟨"LazyMotionModel", "edge", "(II)Z"⟩ ∈ lw_g := wk_is 26 (by decide +kernel) (by decide +kernel)
theorem hs_27 : Cond.selects "LazyMotionModel" ⟨"LazyMotionModel", "wantedBehind", "(I)Z"⟩ ⟨"LazyMotionModel", "wantedBehind", "(I)Z"⟩ ∈ lw_g := wk_is 27 (by decide +kernel) (by decide +kernel)
theorem hs_28 : Cond.selects "LazyMotionModel" ⟨"LazyMotionModel", "lateBefore", "(I)Z"⟩ ⟨"LazyMotionModel", "lateBefore", "(I)Z"⟩ ∈ lw_g := wk_is 28 (by decide +kernel) (by decide +kernel)
theorem hs_29 : Cond.selects "LazyMotionModel" ⟨"LazyMotionModel", "laterOn", "(II)Z"⟩ ⟨"LazyMotionModel", "laterOn", "(II)Z"⟩ ∈ lw_g := wk_is 29 (by decide +kernel) (by decide +kernel)
theorem hs_30 : Cond.selects "LazyMotionModel" ⟨"LazyMotionModel", "earliest", "(II)Z"⟩ ⟨"LazyMotionModel", "earliest", "(II)Z"⟩ ∈ lw_g := wk_is 30 (by decide +kernel) (by decide +kernel)
theorem hs_31 : Cond.selects "LazyMotionModel" ⟨"LazyMotionModel", "mark", "(IIIZ)V"⟩ ⟨"LazyMotionModel", "mark", "(IIIZ)V"⟩ ∈ lw_g := wk_is 31 (by decide +kernel) (by decide +kernel)
theorem hs_32 : Cond.selects "LazyMotionModel" ⟨"LazyMotionModel", "isEdge", "(II)Z"⟩ ⟨"LazyMotionModel", "isEdge", "(II)Z"⟩ ∈ lw_g := wk_is 32 (by decide +kernel) (by decide +kernel)
theorem hs_33 : Cond.selects "LazyMotionModel" ⟨"LazyMotionModel", "cross", "(I)V"⟩ ⟨"LazyMotionModel", "cross", "(I)V"⟩ ∈ lw_g := wk_is 33 (by decide +kernel) (by decide +kernel)
theorem hs_34 : Cond.selects "LazyMotionModel" ⟨"LazyMotionModel", "worked", "(I)I"⟩ ⟨"LazyMotionModel", "worked", "(I)I"⟩ ∈ lw_g := wk_is 34 (by decide +kernel) (by decide +kernel)
theorem hs_35 : Cond.selects "LazyMotionModel" ⟨"LazyMotionModel", "pass", "(IZ)V"⟩ ⟨"LazyMotionModel", "pass", "(IZ)V"⟩ ∈ lw_g := wk_is 35 (by decide +kernel) (by decide +kernel)
theorem hs_36 : Cond.selects "LazyMotionModel" ⟨"LazyMotionModel", "newly", "(II)I"⟩ ⟨"LazyMotionModel", "newly", "(II)I"⟩ ∈ lw_g := wk_is 36 (by decide +kernel) (by decide +kernel)
theorem hw_1 : (Jvm.Cond.initialized "LazyMotion") ∈ lw_g := wk_in 1 (by decide +kernel) (by decide +kernel)
theorem hw_2 : (Jvm.Cond.initialized "LazyMotion$Program") ∈ lw_g := wk_in 2 (by decide +kernel) (by decide +kernel)
theorem hw_3 : (Jvm.Cond.initialized "LazyMotion$Motion") ∈ lw_g := wk_in 3 (by decide +kernel) (by decide +kernel)
theorem hw_4 : (Jvm.Cond.initialized "LazyMotion$Machine") ∈ lw_g := wk_in 4 (by decide +kernel) (by decide +kernel)
theorem hw_5 : (Jvm.Cond.initialized "LazyMotionModel") ∈ lw_g := wk_in 5 (by decide +kernel) (by decide +kernel)
theorem hw_12 : (Jvm.Cond.initialized "java/lang/Long") ∈ lw_g := wk_in 12 (by decide +kernel) (by decide +kernel)
theorem hw_15 : (Jvm.Cond.initialized "java/util/Arrays") ∈ lw_g := wk_in 15 (by decide +kernel) (by decide +kernel)
theorem hw_30 : (Jvm.Cond.fieldLink "LazyMotion$Program" (9 : Nat) "LazyMotion$Program" "blocks" "I") ∈ lw_g := wk_in 30 (by decide +kernel) (by decide +kernel)
theorem hw_31 : (Jvm.Cond.fieldLink "LazyMotion" (42 : Nat) "LazyMotion$Program" "blocks" "I") ∈ lw_g := wk_in 31 (by decide +kernel) (by decide +kernel)
theorem hw_32 : (Jvm.Cond.fieldLink "LazyMotion$Motion" (50 : Nat) "LazyMotion$Program" "blocks" "I") ∈ lw_g := wk_in 32 (by decide +kernel) (by decide +kernel)
theorem hw_33 : (Jvm.Cond.fieldLink "LazyMotion$Program" (15 : Nat) "LazyMotion$Program" "expressions" "I") ∈ lw_g := wk_in 33 (by decide +kernel) (by decide +kernel)
theorem hw_34 : (Jvm.Cond.fieldLink "LazyMotion$Machine" (77 : Nat) "LazyMotion$Program" "expressions" "I") ∈ lw_g := wk_in 34 (by decide +kernel) (by decide +kernel)
theorem hw_35 : (Jvm.Cond.fieldLink "LazyMotion$Motion" (113 : Nat) "LazyMotion$Program" "expressions" "I") ∈ lw_g := wk_in 35 (by decide +kernel) (by decide +kernel)
theorem hw_36 : (Jvm.Cond.fieldLink "LazyMotion" (169 : Nat) "LazyMotion$Program" "expressions" "I") ∈ lw_g := wk_in 36 (by decide +kernel) (by decide +kernel)
theorem hw_37 : (Jvm.Cond.fieldLink "LazyMotion$Program" (18 : Nat) "LazyMotion$Program" "sizes" "[I") ∈ lw_g := wk_in 37 (by decide +kernel) (by decide +kernel)
theorem hw_38 : (Jvm.Cond.fieldLink "LazyMotion$Machine" (84 : Nat) "LazyMotion$Program" "sizes" "[I") ∈ lw_g := wk_in 38 (by decide +kernel) (by decide +kernel)
theorem hw_39 : (Jvm.Cond.fieldLink "LazyMotion$Motion" (98 : Nat) "LazyMotion$Program" "sizes" "[I") ∈ lw_g := wk_in 39 (by decide +kernel) (by decide +kernel)
theorem hw_40 : (Jvm.Cond.fieldLink "LazyMotion$Program" (22 : Nat) "LazyMotion$Program" "kinds" "[I") ∈ lw_g := wk_in 40 (by decide +kernel) (by decide +kernel)
theorem hw_41 : (Jvm.Cond.fieldLink "LazyMotion$Machine" (90 : Nat) "LazyMotion$Program" "kinds" "[I") ∈ lw_g := wk_in 41 (by decide +kernel) (by decide +kernel)
theorem hw_42 : (Jvm.Cond.fieldLink "LazyMotion$Motion" (101 : Nat) "LazyMotion$Program" "kinds" "[I") ∈ lw_g := wk_in 42 (by decide +kernel) (by decide +kernel)
theorem hw_43 : (Jvm.Cond.fieldLink "LazyMotion$Program" (25 : Nat) "LazyMotion$Program" "targets" "[I") ∈ lw_g := wk_in 43 (by decide +kernel) (by decide +kernel)
theorem hw_44 : (Jvm.Cond.fieldLink "LazyMotion$Machine" (93 : Nat) "LazyMotion$Program" "targets" "[I") ∈ lw_g := wk_in 44 (by decide +kernel) (by decide +kernel)
theorem hw_45 : (Jvm.Cond.fieldLink "LazyMotion$Motion" (110 : Nat) "LazyMotion$Program" "targets" "[I") ∈ lw_g := wk_in 45 (by decide +kernel) (by decide +kernel)
theorem hw_46 : (Jvm.Cond.fieldLink "LazyMotion$Program" (28 : Nat) "LazyMotion$Program" "operands" "[I") ∈ lw_g := wk_in 46 (by decide +kernel) (by decide +kernel)
theorem hw_47 : (Jvm.Cond.fieldLink "LazyMotion$Machine" (87 : Nat) "LazyMotion$Program" "operands" "[I") ∈ lw_g := wk_in 47 (by decide +kernel) (by decide +kernel)
theorem hw_48 : (Jvm.Cond.fieldLink "LazyMotion$Motion" (104 : Nat) "LazyMotion$Program" "operands" "[I") ∈ lw_g := wk_in 48 (by decide +kernel) (by decide +kernel)
theorem hw_49 : (Jvm.Cond.fieldLink "LazyMotion$Program" (31 : Nat) "LazyMotion$Program" "tested" "[I") ∈ lw_g := wk_in 49 (by decide +kernel) (by decide +kernel)
theorem hw_50 : (Jvm.Cond.fieldLink "LazyMotion$Machine" (66 : Nat) "LazyMotion$Program" "tested" "[I") ∈ lw_g := wk_in 50 (by decide +kernel) (by decide +kernel)
theorem hw_51 : (Jvm.Cond.fieldLink "LazyMotion$Program" (34 : Nat) "LazyMotion$Program" "firsts" "[I") ∈ lw_g := wk_in 51 (by decide +kernel) (by decide +kernel)
theorem hw_52 : (Jvm.Cond.fieldLink "LazyMotion$Machine" (71 : Nat) "LazyMotion$Program" "firsts" "[I") ∈ lw_g := wk_in 52 (by decide +kernel) (by decide +kernel)
theorem hw_53 : (Jvm.Cond.fieldLink "LazyMotion$Motion" (84 : Nat) "LazyMotion$Program" "firsts" "[I") ∈ lw_g := wk_in 53 (by decide +kernel) (by decide +kernel)
theorem hw_54 : (Jvm.Cond.fieldLink "LazyMotion$Program" (37 : Nat) "LazyMotion$Program" "seconds" "[I") ∈ lw_g := wk_in 54 (by decide +kernel) (by decide +kernel)
theorem hw_55 : (Jvm.Cond.fieldLink "LazyMotion$Machine" (74 : Nat) "LazyMotion$Program" "seconds" "[I") ∈ lw_g := wk_in 55 (by decide +kernel) (by decide +kernel)
theorem hw_56 : (Jvm.Cond.fieldLink "LazyMotion$Motion" (88 : Nat) "LazyMotion$Program" "seconds" "[I") ∈ lw_g := wk_in 56 (by decide +kernel) (by decide +kernel)
theorem hw_57 : (Jvm.Cond.fieldLink "LazyMotion$Program" (40 : Nat) "LazyMotion$Program" "lefts" "[I") ∈ lw_g := wk_in 57 (by decide +kernel) (by decide +kernel)
theorem hw_58 : (Jvm.Cond.fieldLink "LazyMotion$Program" (43 : Nat) "LazyMotion$Program" "operators" "[I") ∈ lw_g := wk_in 58 (by decide +kernel) (by decide +kernel)
theorem hw_59 : (Jvm.Cond.fieldLink "LazyMotion$Program" (46 : Nat) "LazyMotion$Program" "rights" "[I") ∈ lw_g := wk_in 59 (by decide +kernel) (by decide +kernel)
theorem hw_60 : (Jvm.Cond.fieldLink "LazyMotion$Program" (49 : Nat) "LazyMotion$Program" "users" "[J") ∈ lw_g := wk_in 60 (by decide +kernel) (by decide +kernel)
theorem hw_61 : (Jvm.Cond.fieldLink "LazyMotion$Motion" (107 : Nat) "LazyMotion$Program" "users" "[J") ∈ lw_g := wk_in 61 (by decide +kernel) (by decide +kernel)
theorem hw_62 : (Jvm.Cond.lays "LazyMotion$Program" "LazyMotion$Program" "blocks" "I") ∈ lw_g := wk_in 62 (by decide +kernel) (by decide +kernel)
theorem hw_64 : (Jvm.Cond.lays "LazyMotion$Program" "LazyMotion$Program" "expressions" "I") ∈ lw_g := wk_in 64 (by decide +kernel) (by decide +kernel)
theorem hw_66 : (Jvm.Cond.laysFinal "LazyMotion$Program" "LazyMotion$Program" "sizes" "[I") ∈ lw_g := wk_in 66 (by decide +kernel) (by decide +kernel)
theorem hw_68 : (Jvm.Cond.laysFinal "LazyMotion$Program" "LazyMotion$Program" "kinds" "[I") ∈ lw_g := wk_in 68 (by decide +kernel) (by decide +kernel)
theorem hw_70 : (Jvm.Cond.laysFinal "LazyMotion$Program" "LazyMotion$Program" "targets" "[I") ∈ lw_g := wk_in 70 (by decide +kernel) (by decide +kernel)
theorem hw_72 : (Jvm.Cond.laysFinal "LazyMotion$Program" "LazyMotion$Program" "operands" "[I") ∈ lw_g := wk_in 72 (by decide +kernel) (by decide +kernel)
theorem hw_74 : (Jvm.Cond.laysFinal "LazyMotion$Program" "LazyMotion$Program" "tested" "[I") ∈ lw_g := wk_in 74 (by decide +kernel) (by decide +kernel)
theorem hw_76 : (Jvm.Cond.laysFinal "LazyMotion$Program" "LazyMotion$Program" "firsts" "[I") ∈ lw_g := wk_in 76 (by decide +kernel) (by decide +kernel)
theorem hw_78 : (Jvm.Cond.laysFinal "LazyMotion$Program" "LazyMotion$Program" "seconds" "[I") ∈ lw_g := wk_in 78 (by decide +kernel) (by decide +kernel)
theorem hw_80 : (Jvm.Cond.laysFinal "LazyMotion$Program" "LazyMotion$Program" "lefts" "[I") ∈ lw_g := wk_in 80 (by decide +kernel) (by decide +kernel)
theorem hw_82 : (Jvm.Cond.laysFinal "LazyMotion$Program" "LazyMotion$Program" "operators" "[I") ∈ lw_g := wk_in 82 (by decide +kernel) (by decide +kernel)
theorem hw_84 : (Jvm.Cond.laysFinal "LazyMotion$Program" "LazyMotion$Program" "rights" "[I") ∈ lw_g := wk_in 84 (by decide +kernel) (by decide +kernel)
theorem hw_86 : (Jvm.Cond.laysFinal "LazyMotion$Program" "LazyMotion$Program" "users" "[J") ∈ lw_g := wk_in 86 (by decide +kernel) (by decide +kernel)
theorem hw_97 : (Jvm.Cond.fieldLink "LazyMotion$Motion" (43 : Nat) "LazyMotion$Motion" "program" "LLazyMotion$Program;") ∈ lw_g := wk_in 97 (by decide +kernel) (by decide +kernel)
theorem hw_98 : (Jvm.Cond.fieldLink "LazyMotion$Motion" (9 : Nat) "LazyMotion$Motion" "reached" "[Z") ∈ lw_g := wk_in 98 (by decide +kernel) (by decide +kernel)
theorem hw_99 : (Jvm.Cond.fieldLink "LazyMotion$Motion" (15 : Nat) "LazyMotion$Motion" "changes" "[J") ∈ lw_g := wk_in 99 (by decide +kernel) (by decide +kernel)
theorem hw_100 : (Jvm.Cond.fieldLink "LazyMotion$Motion" (19 : Nat) "LazyMotion$Motion" "asks" "[J") ∈ lw_g := wk_in 100 (by decide +kernel) (by decide +kernel)
theorem hw_101 : (Jvm.Cond.fieldLink "LazyMotion$Motion" (22 : Nat) "LazyMotion$Motion" "leaves" "[J") ∈ lw_g := wk_in 101 (by decide +kernel) (by decide +kernel)
theorem hw_102 : (Jvm.Cond.fieldLink "LazyMotion$Motion" (25 : Nat) "LazyMotion$Motion" "thereBefore" "[J") ∈ lw_g := wk_in 102 (by decide +kernel) (by decide +kernel)
theorem hw_103 : (Jvm.Cond.fieldLink "LazyMotion$Motion" (28 : Nat) "LazyMotion$Motion" "thereBehind" "[J") ∈ lw_g := wk_in 103 (by decide +kernel) (by decide +kernel)
theorem hw_104 : (Jvm.Cond.fieldLink "LazyMotion$Motion" (31 : Nat) "LazyMotion$Motion" "wantedBefore" "[J") ∈ lw_g := wk_in 104 (by decide +kernel) (by decide +kernel)
theorem hw_105 : (Jvm.Cond.fieldLink "LazyMotion$Motion" (34 : Nat) "LazyMotion$Motion" "wantedBehind" "[J") ∈ lw_g := wk_in 105 (by decide +kernel) (by decide +kernel)
theorem hw_106 : (Jvm.Cond.fieldLink "LazyMotion$Motion" (37 : Nat) "LazyMotion$Motion" "lateBefore" "[J") ∈ lw_g := wk_in 106 (by decide +kernel) (by decide +kernel)
theorem hw_107 : (Jvm.Cond.fieldLink "LazyMotion$Motion" (40 : Nat) "LazyMotion$Motion" "takenOut" "[J") ∈ lw_g := wk_in 107 (by decide +kernel) (by decide +kernel)
theorem hw_108 : (Jvm.Cond.fieldLink "LazyMotion$Machine" (58 : Nat) "LazyMotion$Motion" "takenOut" "[J") ∈ lw_g := wk_in 108 (by decide +kernel) (by decide +kernel)
theorem hw_109 : (Jvm.Cond.laysFinal "LazyMotion$Motion" "LazyMotion$Motion" "program" "LLazyMotion$Program;") ∈ lw_g := wk_in 109 (by decide +kernel) (by decide +kernel)
theorem hw_111 : (Jvm.Cond.laysFinal "LazyMotion$Motion" "LazyMotion$Motion" "reached" "[Z") ∈ lw_g := wk_in 111 (by decide +kernel) (by decide +kernel)
theorem hw_113 : (Jvm.Cond.laysFinal "LazyMotion$Motion" "LazyMotion$Motion" "changes" "[J") ∈ lw_g := wk_in 113 (by decide +kernel) (by decide +kernel)
theorem hw_115 : (Jvm.Cond.laysFinal "LazyMotion$Motion" "LazyMotion$Motion" "asks" "[J") ∈ lw_g := wk_in 115 (by decide +kernel) (by decide +kernel)
theorem hw_117 : (Jvm.Cond.laysFinal "LazyMotion$Motion" "LazyMotion$Motion" "leaves" "[J") ∈ lw_g := wk_in 117 (by decide +kernel) (by decide +kernel)
theorem hw_119 : (Jvm.Cond.laysFinal "LazyMotion$Motion" "LazyMotion$Motion" "thereBefore" "[J") ∈ lw_g := wk_in 119 (by decide +kernel) (by decide +kernel)
theorem hw_121 : (Jvm.Cond.laysFinal "LazyMotion$Motion" "LazyMotion$Motion" "thereBehind" "[J") ∈ lw_g := wk_in 121 (by decide +kernel) (by decide +kernel)
theorem hw_123 : (Jvm.Cond.laysFinal "LazyMotion$Motion" "LazyMotion$Motion" "wantedBefore" "[J") ∈ lw_g := wk_in 123 (by decide +kernel) (by decide +kernel)
theorem hw_125 : (Jvm.Cond.laysFinal "LazyMotion$Motion" "LazyMotion$Motion" "wantedBehind" "[J") ∈ lw_g := wk_in 125 (by decide +kernel) (by decide +kernel)
theorem hw_127 : (Jvm.Cond.laysFinal "LazyMotion$Motion" "LazyMotion$Motion" "lateBefore" "[J") ∈ lw_g := wk_in 127 (by decide +kernel) (by decide +kernel)
theorem hw_129 : (Jvm.Cond.laysFinal "LazyMotion$Motion" "LazyMotion$Motion" "takenOut" "[J") ∈ lw_g := wk_in 129 (by decide +kernel) (by decide +kernel)
theorem hw_139 : (Jvm.Cond.fieldLink "LazyMotion$Machine" (9 : Nat) "LazyMotion$Machine" "computations" "I") ∈ lw_g := wk_in 139 (by decide +kernel) (by decide +kernel)
theorem hw_140 : (Jvm.Cond.fieldLink "LazyMotion" (146 : Nat) "LazyMotion$Machine" "computations" "I") ∈ lw_g := wk_in 140 (by decide +kernel) (by decide +kernel)
theorem hw_141 : (Jvm.Cond.fieldLink "LazyMotion$Machine" (15 : Nat) "LazyMotion$Machine" "given" "I") ∈ lw_g := wk_in 141 (by decide +kernel) (by decide +kernel)
theorem hw_142 : (Jvm.Cond.fieldLink "LazyMotion" (149 : Nat) "LazyMotion$Machine" "given" "I") ∈ lw_g := wk_in 142 (by decide +kernel) (by decide +kernel)
theorem hw_143 : (Jvm.Cond.fieldLink "LazyMotion$Machine" (18 : Nat) "LazyMotion$Machine" "passed" "I") ∈ lw_g := wk_in 143 (by decide +kernel) (by decide +kernel)
theorem hw_144 : (Jvm.Cond.fieldLink "LazyMotion" (172 : Nat) "LazyMotion$Machine" "passed" "I") ∈ lw_g := wk_in 144 (by decide +kernel) (by decide +kernel)
theorem hw_145 : (Jvm.Cond.fieldLink "LazyMotion$Machine" (21 : Nat) "LazyMotion$Machine" "variables" "[I") ∈ lw_g := wk_in 145 (by decide +kernel) (by decide +kernel)
theorem hw_146 : (Jvm.Cond.fieldLink "LazyMotion" (163 : Nat) "LazyMotion$Machine" "variables" "[I") ∈ lw_g := wk_in 146 (by decide +kernel) (by decide +kernel)
theorem hw_147 : (Jvm.Cond.fieldLink "LazyMotion$Machine" (25 : Nat) "LazyMotion$Machine" "made" "[I") ∈ lw_g := wk_in 147 (by decide +kernel) (by decide +kernel)
theorem hw_148 : (Jvm.Cond.fieldLink "LazyMotion" (166 : Nat) "LazyMotion$Machine" "made" "[I") ∈ lw_g := wk_in 148 (by decide +kernel) (by decide +kernel)
theorem hw_149 : (Jvm.Cond.fieldLink "LazyMotion$Machine" (28 : Nat) "LazyMotion$Machine" "numbers" "[I") ∈ lw_g := wk_in 149 (by decide +kernel) (by decide +kernel)
theorem hw_150 : (Jvm.Cond.fieldLink "LazyMotion" (154 : Nat) "LazyMotion$Machine" "numbers" "[I") ∈ lw_g := wk_in 150 (by decide +kernel) (by decide +kernel)
theorem hw_151 : (Jvm.Cond.fieldLink "LazyMotion$Machine" (34 : Nat) "LazyMotion$Machine" "program" "LLazyMotion$Program;") ∈ lw_g := wk_in 151 (by decide +kernel) (by decide +kernel)
theorem hw_152 : (Jvm.Cond.fieldLink "LazyMotion$Machine" (38 : Nat) "LazyMotion$Machine" "motion" "LLazyMotion$Motion;") ∈ lw_g := wk_in 152 (by decide +kernel) (by decide +kernel)
theorem hw_153 : (Jvm.Cond.fieldLink "LazyMotion$Machine" (31 : Nat) "LazyMotion$Machine" "temporaries" "[I") ∈ lw_g := wk_in 153 (by decide +kernel) (by decide +kernel)
theorem hw_154 : (Jvm.Cond.lays "LazyMotion$Machine" "LazyMotion$Machine" "computations" "I") ∈ lw_g := wk_in 154 (by decide +kernel) (by decide +kernel)
theorem hw_156 : (Jvm.Cond.lays "LazyMotion$Machine" "LazyMotion$Machine" "given" "I") ∈ lw_g := wk_in 156 (by decide +kernel) (by decide +kernel)
theorem hw_158 : (Jvm.Cond.lays "LazyMotion$Machine" "LazyMotion$Machine" "passed" "I") ∈ lw_g := wk_in 158 (by decide +kernel) (by decide +kernel)
theorem hw_160 : (Jvm.Cond.laysFinal "LazyMotion$Machine" "LazyMotion$Machine" "variables" "[I") ∈ lw_g := wk_in 160 (by decide +kernel) (by decide +kernel)
theorem hw_162 : (Jvm.Cond.laysFinal "LazyMotion$Machine" "LazyMotion$Machine" "made" "[I") ∈ lw_g := wk_in 162 (by decide +kernel) (by decide +kernel)
theorem hw_164 : (Jvm.Cond.laysFinal "LazyMotion$Machine" "LazyMotion$Machine" "numbers" "[I") ∈ lw_g := wk_in 164 (by decide +kernel) (by decide +kernel)
theorem hw_166 : (Jvm.Cond.laysFinal "LazyMotion$Machine" "LazyMotion$Machine" "program" "LLazyMotion$Program;") ∈ lw_g := wk_in 166 (by decide +kernel) (by decide +kernel)
theorem hw_168 : (Jvm.Cond.laysFinal "LazyMotion$Machine" "LazyMotion$Machine" "motion" "LLazyMotion$Motion;") ∈ lw_g := wk_in 168 (by decide +kernel) (by decide +kernel)
theorem hw_170 : (Jvm.Cond.laysFinal "LazyMotion$Machine" "LazyMotion$Machine" "temporaries" "[I") ∈ lw_g := wk_in 170 (by decide +kernel) (by decide +kernel)
theorem hw_173 : (Jvm.Cond.fieldLink "LazyMotion" (17 : Nat) "LazyMotion" "program" "LLazyMotion$Program;") ∈ lw_g := wk_in 173 (by decide +kernel) (by decide +kernel)
theorem hw_174 : (Jvm.Cond.fieldLink "LazyMotion" (21 : Nat) "LazyMotion" "motion" "LLazyMotion$Motion;") ∈ lw_g := wk_in 174 (by decide +kernel) (by decide +kernel)
theorem hw_175 : (Jvm.Cond.fieldLink "LazyMotion" (30 : Nat) "LazyMotion" "machine" "LLazyMotion$Machine;") ∈ lw_g := wk_in 175 (by decide +kernel) (by decide +kernel)
theorem hw_176 : (Jvm.Cond.fieldLink "LazyMotion" (34 : Nat) "LazyMotion" "planned" "Z") ∈ lw_g := wk_in 176 (by decide +kernel) (by decide +kernel)
theorem hw_177 : (Jvm.Cond.fieldLink "LazyMotion" (38 : Nat) "LazyMotion" "plans" "I") ∈ lw_g := wk_in 177 (by decide +kernel) (by decide +kernel)
theorem hw_178 : (Jvm.Cond.laysFinal "LazyMotion" "LazyMotion" "program" "LLazyMotion$Program;") ∈ lw_g := wk_in 178 (by decide +kernel) (by decide +kernel)
theorem hw_180 : (Jvm.Cond.laysFinal "LazyMotion" "LazyMotion" "motion" "LLazyMotion$Motion;") ∈ lw_g := wk_in 180 (by decide +kernel) (by decide +kernel)
theorem hw_182 : (Jvm.Cond.laysFinal "LazyMotion" "LazyMotion" "machine" "LLazyMotion$Machine;") ∈ lw_g := wk_in 182 (by decide +kernel) (by decide +kernel)
theorem hw_184 : (Jvm.Cond.lays "LazyMotion" "LazyMotion" "planned" "Z") ∈ lw_g := wk_in 184 (by decide +kernel) (by decide +kernel)
theorem hw_186 : (Jvm.Cond.lays "LazyMotion" "LazyMotion" "plans" "I") ∈ lw_g := wk_in 186 (by decide +kernel) (by decide +kernel)
theorem hw_275 : (Jvm.Cond.methodLink "LazyMotion" (52 : Nat) ({ cls := "LazyMotion$Program", name := "addBlock", desc := "()I" } : Jvm.MethodName)) ∈ lw_g := wk_in 275 (by decide +kernel) (by decide +kernel)
theorem hw_276 : (Jvm.Cond.instanceMethod ({ cls := "LazyMotion$Program", name := "addBlock", desc := "()I" } : Jvm.MethodName)) ∈ lw_g := wk_in 276 (by decide +kernel) (by decide +kernel)
theorem hw_277 : (Jvm.Cond.selects "LazyMotion$Program" ({ cls := "LazyMotion$Program", name := "addBlock", desc := "()I" } : Jvm.MethodName) ({ cls := "LazyMotion$Program", name := "addBlock", desc := "()I" } : Jvm.MethodName)) ∈ lw_g := wk_in 277 (by decide +kernel) (by decide +kernel)
theorem hw_278 : (Jvm.Cond.code ({ cls := "LazyMotion$Program", name := "addBlock", desc := "()I" } : Jvm.MethodName) prog_4_method_3_code (2 : Nat) (Option.some Jvm.ClassFile.FieldType.int)) ∈ lw_g := wk_in 278 (by decide +kernel) (by decide +kernel)
theorem hw_279 : (Jvm.Cond.methodLink "LazyMotion$Program" (53 : Nat) ({ cls := "LazyMotion$Program", name := "changeEnd", desc := "(IIII)I" } : Jvm.MethodName)) ∈ lw_g := wk_in 279 (by decide +kernel) (by decide +kernel)
theorem hw_280 : (Jvm.Cond.instanceMethod ({ cls := "LazyMotion$Program", name := "changeEnd", desc := "(IIII)I" } : Jvm.MethodName)) ∈ lw_g := wk_in 280 (by decide +kernel) (by decide +kernel)
theorem hw_281 : (Jvm.Cond.selects "LazyMotion$Program" ({ cls := "LazyMotion$Program", name := "changeEnd", desc := "(IIII)I" } : Jvm.MethodName) ({ cls := "LazyMotion$Program", name := "changeEnd", desc := "(IIII)I" } : Jvm.MethodName)) ∈ lw_g := wk_in 281 (by decide +kernel) (by decide +kernel)
theorem hw_282 : (Jvm.Cond.code ({ cls := "LazyMotion$Program", name := "changeEnd", desc := "(IIII)I" } : Jvm.MethodName) prog_4_method_4_code (5 : Nat) (Option.some Jvm.ClassFile.FieldType.int)) ∈ lw_g := wk_in 282 (by decide +kernel) (by decide +kernel)
theorem hw_291 : (Jvm.Cond.methodLink "LazyMotion" (56 : Nat) ({ cls := "LazyMotion", name := "isStatement", desc := "(IIIII)Z" } : Jvm.MethodName)) ∈ lw_g := wk_in 291 (by decide +kernel) (by decide +kernel)
theorem hw_292 : (Jvm.Cond.static ({ cls := "LazyMotion", name := "isStatement", desc := "(IIIII)Z" } : Jvm.MethodName)) ∈ lw_g := wk_in 292 (by decide +kernel) (by decide +kernel)
theorem hw_293 : (Jvm.Cond.code ({ cls := "LazyMotion", name := "isStatement", desc := "(IIIII)Z" } : Jvm.MethodName) prog_1_method_15_code (5 : Nat) (Option.some Jvm.ClassFile.FieldType.boolean)) ∈ lw_g := wk_in 293 (by decide +kernel) (by decide +kernel)
theorem hw_294 : (Jvm.Cond.methodLink "LazyMotion" (158 : Nat) ({ cls := "LazyMotion", name := "isVariable", desc := "(I)Z" } : Jvm.MethodName)) ∈ lw_g := wk_in 294 (by decide +kernel) (by decide +kernel)
theorem hw_295 : (Jvm.Cond.static ({ cls := "LazyMotion", name := "isVariable", desc := "(I)Z" } : Jvm.MethodName)) ∈ lw_g := wk_in 295 (by decide +kernel) (by decide +kernel)
theorem hw_296 : (Jvm.Cond.code ({ cls := "LazyMotion", name := "isVariable", desc := "(I)Z" } : Jvm.MethodName) prog_1_method_17_code (1 : Nat) (Option.some Jvm.ClassFile.FieldType.boolean)) ∈ lw_g := wk_in 296 (by decide +kernel) (by decide +kernel)
theorem hw_313 : (Jvm.Cond.methodLink "LazyMotion" (65 : Nat) ({ cls := "LazyMotion$Program", name := "takesStatement", desc := "()Z" } : Jvm.MethodName)) ∈ lw_g := wk_in 313 (by decide +kernel) (by decide +kernel)
theorem hw_314 : (Jvm.Cond.instanceMethod ({ cls := "LazyMotion$Program", name := "takesStatement", desc := "()Z" } : Jvm.MethodName)) ∈ lw_g := wk_in 314 (by decide +kernel) (by decide +kernel)
theorem hw_315 : (Jvm.Cond.selects "LazyMotion$Program" ({ cls := "LazyMotion$Program", name := "takesStatement", desc := "()Z" } : Jvm.MethodName) ({ cls := "LazyMotion$Program", name := "takesStatement", desc := "()Z" } : Jvm.MethodName)) ∈ lw_g := wk_in 315 (by decide +kernel) (by decide +kernel)
theorem hw_316 : (Jvm.Cond.code ({ cls := "LazyMotion$Program", name := "takesStatement", desc := "()Z" } : Jvm.MethodName) prog_4_method_5_code (1 : Nat) (Option.some Jvm.ClassFile.FieldType.boolean)) ∈ lw_g := wk_in 316 (by decide +kernel) (by decide +kernel)
theorem hw_318 : (Jvm.Cond.methodLink "LazyMotion" (71 : Nat) ({ cls := "LazyMotion$Program", name := "findOrAddExpression", desc := "(III)I" } : Jvm.MethodName)) ∈ lw_g := wk_in 318 (by decide +kernel) (by decide +kernel)
theorem hw_319 : (Jvm.Cond.instanceMethod ({ cls := "LazyMotion$Program", name := "findOrAddExpression", desc := "(III)I" } : Jvm.MethodName)) ∈ lw_g := wk_in 319 (by decide +kernel) (by decide +kernel)
theorem hw_320 : (Jvm.Cond.selects "LazyMotion$Program" ({ cls := "LazyMotion$Program", name := "findOrAddExpression", desc := "(III)I" } : Jvm.MethodName) ({ cls := "LazyMotion$Program", name := "findOrAddExpression", desc := "(III)I" } : Jvm.MethodName)) ∈ lw_g := wk_in 320 (by decide +kernel) (by decide +kernel)
theorem hw_321 : (Jvm.Cond.code ({ cls := "LazyMotion$Program", name := "findOrAddExpression", desc := "(III)I" } : Jvm.MethodName) prog_4_method_8_code (5 : Nat) (Option.some Jvm.ClassFile.FieldType.int)) ∈ lw_g := wk_in 321 (by decide +kernel) (by decide +kernel)
theorem hw_322 : (Jvm.Cond.methodLink "LazyMotion$Program" (57 : Nat) ({ cls := "LazyMotion$Program", name := "findExpression", desc := "(III)I" } : Jvm.MethodName)) ∈ lw_g := wk_in 322 (by decide +kernel) (by decide +kernel)
theorem hw_323 : (Jvm.Cond.instanceMethod ({ cls := "LazyMotion$Program", name := "findExpression", desc := "(III)I" } : Jvm.MethodName)) ∈ lw_g := wk_in 323 (by decide +kernel) (by decide +kernel)
theorem hw_324 : (Jvm.Cond.selects "LazyMotion$Program" ({ cls := "LazyMotion$Program", name := "findExpression", desc := "(III)I" } : Jvm.MethodName) ({ cls := "LazyMotion$Program", name := "findExpression", desc := "(III)I" } : Jvm.MethodName)) ∈ lw_g := wk_in 324 (by decide +kernel) (by decide +kernel)
theorem hw_325 : (Jvm.Cond.code ({ cls := "LazyMotion$Program", name := "findExpression", desc := "(III)I" } : Jvm.MethodName) prog_4_method_7_code (5 : Nat) (Option.some Jvm.ClassFile.FieldType.int)) ∈ lw_g := wk_in 325 (by decide +kernel) (by decide +kernel)
theorem hw_338 : (Jvm.Cond.methodLink "LazyMotion" (80 : Nat) ({ cls := "LazyMotion$Program", name := "hasBlock", desc := "(I)Z" } : Jvm.MethodName)) ∈ lw_g := wk_in 338 (by decide +kernel) (by decide +kernel)
theorem hw_339 : (Jvm.Cond.instanceMethod ({ cls := "LazyMotion$Program", name := "hasBlock", desc := "(I)Z" } : Jvm.MethodName)) ∈ lw_g := wk_in 339 (by decide +kernel) (by decide +kernel)
theorem hw_340 : (Jvm.Cond.selects "LazyMotion$Program" ({ cls := "LazyMotion$Program", name := "hasBlock", desc := "(I)Z" } : Jvm.MethodName) ({ cls := "LazyMotion$Program", name := "hasBlock", desc := "(I)Z" } : Jvm.MethodName)) ∈ lw_g := wk_in 340 (by decide +kernel) (by decide +kernel)
theorem hw_341 : (Jvm.Cond.code ({ cls := "LazyMotion$Program", name := "hasBlock", desc := "(I)Z" } : Jvm.MethodName) prog_4_method_2_code (2 : Nat) (Option.some Jvm.ClassFile.FieldType.boolean)) ∈ lw_g := wk_in 341 (by decide +kernel) (by decide +kernel)
theorem hw_342 : (Jvm.Cond.methodLink "LazyMotion" (84 : Nat) ({ cls := "LazyMotion", name := "isEnd", desc := "(IIII)Z" } : Jvm.MethodName)) ∈ lw_g := wk_in 342 (by decide +kernel) (by decide +kernel)
theorem hw_343 : (Jvm.Cond.static ({ cls := "LazyMotion", name := "isEnd", desc := "(IIII)Z" } : Jvm.MethodName)) ∈ lw_g := wk_in 343 (by decide +kernel) (by decide +kernel)
theorem hw_344 : (Jvm.Cond.code ({ cls := "LazyMotion", name := "isEnd", desc := "(IIII)Z" } : Jvm.MethodName) prog_1_method_16_code (4 : Nat) (Option.some Jvm.ClassFile.FieldType.boolean)) ∈ lw_g := wk_in 344 (by decide +kernel) (by decide +kernel)
theorem hw_345 : (Jvm.Cond.methodLink "LazyMotion" (177 : Nat) ({ cls := "LazyMotion", name := "mayBeBlock", desc := "(I)Z" } : Jvm.MethodName)) ∈ lw_g := wk_in 345 (by decide +kernel) (by decide +kernel)
theorem hw_346 : (Jvm.Cond.static ({ cls := "LazyMotion", name := "mayBeBlock", desc := "(I)Z" } : Jvm.MethodName)) ∈ lw_g := wk_in 346 (by decide +kernel) (by decide +kernel)
theorem hw_347 : (Jvm.Cond.code ({ cls := "LazyMotion", name := "mayBeBlock", desc := "(I)Z" } : Jvm.MethodName) prog_1_method_18_code (1 : Nat) (Option.some Jvm.ClassFile.FieldType.boolean)) ∈ lw_g := wk_in 347 (by decide +kernel) (by decide +kernel)
theorem hw_349 : (Jvm.Cond.methodLink "LazyMotion" (90 : Nat) ({ cls := "LazyMotion$Program", name := "changeEnd", desc := "(IIII)I" } : Jvm.MethodName)) ∈ lw_g := wk_in 349 (by decide +kernel) (by decide +kernel)
theorem hw_359 : (Jvm.Cond.methodLink "LazyMotion" (96 : Nat) ({ cls := "LazyMotion$Program", name := "isWhole", desc := "()Z" } : Jvm.MethodName)) ∈ lw_g := wk_in 359 (by decide +kernel) (by decide +kernel)
theorem hw_360 : (Jvm.Cond.instanceMethod ({ cls := "LazyMotion$Program", name := "isWhole", desc := "()Z" } : Jvm.MethodName)) ∈ lw_g := wk_in 360 (by decide +kernel) (by decide +kernel)
theorem hw_361 : (Jvm.Cond.selects "LazyMotion$Program" ({ cls := "LazyMotion$Program", name := "isWhole", desc := "()Z" } : Jvm.MethodName) ({ cls := "LazyMotion$Program", name := "isWhole", desc := "()Z" } : Jvm.MethodName)) ∈ lw_g := wk_in 361 (by decide +kernel) (by decide +kernel)
theorem hw_362 : (Jvm.Cond.code ({ cls := "LazyMotion$Program", name := "isWhole", desc := "()Z" } : Jvm.MethodName) prog_4_method_9_code (2 : Nat) (Option.some Jvm.ClassFile.FieldType.boolean)) ∈ lw_g := wk_in 362 (by decide +kernel) (by decide +kernel)
theorem hw_379 : (Jvm.Cond.methodLink "LazyMotion" (104 : Nat) ({ cls := "LazyMotion$Motion", name := "findSets", desc := "()V" } : Jvm.MethodName)) ∈ lw_g := wk_in 379 (by decide +kernel) (by decide +kernel)
theorem hw_380 : (Jvm.Cond.instanceMethod ({ cls := "LazyMotion$Motion", name := "findSets", desc := "()V" } : Jvm.MethodName)) ∈ lw_g := wk_in 380 (by decide +kernel) (by decide +kernel)
theorem hw_381 : (Jvm.Cond.selects "LazyMotion$Motion" ({ cls := "LazyMotion$Motion", name := "findSets", desc := "()V" } : Jvm.MethodName) ({ cls := "LazyMotion$Motion", name := "findSets", desc := "()V" } : Jvm.MethodName)) ∈ lw_g := wk_in 381 (by decide +kernel) (by decide +kernel)
theorem hw_382 : (Jvm.Cond.code ({ cls := "LazyMotion$Motion", name := "findSets", desc := "()V" } : Jvm.MethodName) prog_3_method_2_code (2 : Nat) (Option.none : Option Jvm.ClassFile.FieldType)) ∈ lw_g := wk_in 382 (by decide +kernel) (by decide +kernel)
theorem hw_383 : (Jvm.Cond.methodLink "LazyMotion$Motion" (47 : Nat) ({ cls := "LazyMotion$Motion", name := "findReached", desc := "()V" } : Jvm.MethodName)) ∈ lw_g := wk_in 383 (by decide +kernel) (by decide +kernel)
theorem hw_385 : (Jvm.Cond.instanceMethod ({ cls := "LazyMotion$Motion", name := "findReached", desc := "()V" } : Jvm.MethodName)) ∈ lw_g := wk_in 385 (by decide +kernel) (by decide +kernel)
theorem hw_386 : (Jvm.Cond.code ({ cls := "LazyMotion$Motion", name := "findReached", desc := "()V" } : Jvm.MethodName) prog_3_method_8_code (4 : Nat) (Option.none : Option Jvm.ClassFile.FieldType)) ∈ lw_g := wk_in 386 (by decide +kernel) (by decide +kernel)
theorem hw_387 : (Jvm.Cond.methodLink "LazyMotion$Motion" (95 : Nat) ({ cls := "LazyMotion$Motion", name := "reach", desc := "(I)Z" } : Jvm.MethodName)) ∈ lw_g := wk_in 387 (by decide +kernel) (by decide +kernel)
theorem hw_389 : (Jvm.Cond.instanceMethod ({ cls := "LazyMotion$Motion", name := "reach", desc := "(I)Z" } : Jvm.MethodName)) ∈ lw_g := wk_in 389 (by decide +kernel) (by decide +kernel)
theorem hw_390 : (Jvm.Cond.code ({ cls := "LazyMotion$Motion", name := "reach", desc := "(I)Z" } : Jvm.MethodName) prog_3_method_9_code (2 : Nat) (Option.some Jvm.ClassFile.FieldType.boolean)) ∈ lw_g := wk_in 390 (by decide +kernel) (by decide +kernel)
theorem hw_391 : (Jvm.Cond.methodLink "LazyMotion$Motion" (56 : Nat) ({ cls := "LazyMotion$Motion", name := "readBlock", desc := "(I)V" } : Jvm.MethodName)) ∈ lw_g := wk_in 391 (by decide +kernel) (by decide +kernel)
theorem hw_393 : (Jvm.Cond.instanceMethod ({ cls := "LazyMotion$Motion", name := "readBlock", desc := "(I)V" } : Jvm.MethodName)) ∈ lw_g := wk_in 393 (by decide +kernel) (by decide +kernel)
theorem hw_394 : (Jvm.Cond.code ({ cls := "LazyMotion$Motion", name := "readBlock", desc := "(I)V" } : Jvm.MethodName) prog_3_method_10_code (6 : Nat) (Option.none : Option Jvm.ClassFile.FieldType)) ∈ lw_g := wk_in 394 (by decide +kernel) (by decide +kernel)
theorem hw_395 : (Jvm.Cond.constantLong "LazyMotion$Motion" (72 : Nat) (-1 : Int64)) ∈ lw_g := wk_in 395 (by decide +kernel) (by decide +kernel)
theorem hw_396 : (Jvm.Cond.methodLink "LazyMotion$Motion" (60 : Nat) ({ cls := "LazyMotion$Motion", name := "fillSets", desc := "(I)V" } : Jvm.MethodName)) ∈ lw_g := wk_in 396 (by decide +kernel) (by decide +kernel)
theorem hw_398 : (Jvm.Cond.instanceMethod ({ cls := "LazyMotion$Motion", name := "fillSets", desc := "(I)V" } : Jvm.MethodName)) ∈ lw_g := wk_in 398 (by decide +kernel) (by decide +kernel)
theorem hw_399 : (Jvm.Cond.code ({ cls := "LazyMotion$Motion", name := "fillSets", desc := "(I)V" } : Jvm.MethodName) prog_3_method_11_code (4 : Nat) (Option.none : Option Jvm.ClassFile.FieldType)) ∈ lw_g := wk_in 399 (by decide +kernel) (by decide +kernel)
theorem hw_400 : (Jvm.Cond.methodLink "LazyMotion$Motion" (63 : Nat) ({ cls := "LazyMotion$Motion", name := "flowThere", desc := "()V" } : Jvm.MethodName)) ∈ lw_g := wk_in 400 (by decide +kernel) (by decide +kernel)
theorem hw_402 : (Jvm.Cond.instanceMethod ({ cls := "LazyMotion$Motion", name := "flowThere", desc := "()V" } : Jvm.MethodName)) ∈ lw_g := wk_in 402 (by decide +kernel) (by decide +kernel)
theorem hw_403 : (Jvm.Cond.code ({ cls := "LazyMotion$Motion", name := "flowThere", desc := "()V" } : Jvm.MethodName) prog_3_method_12_code (4 : Nat) (Option.none : Option Jvm.ClassFile.FieldType)) ∈ lw_g := wk_in 403 (by decide +kernel) (by decide +kernel)
theorem hw_404 : (Jvm.Cond.methodLink "LazyMotion$Motion" (116 : Nat) ({ cls := "LazyMotion$Motion", name := "narrow", desc := "([JIJ)Z" } : Jvm.MethodName)) ∈ lw_g := wk_in 404 (by decide +kernel) (by decide +kernel)
theorem hw_405 : (Jvm.Cond.static ({ cls := "LazyMotion$Motion", name := "narrow", desc := "([JIJ)Z" } : Jvm.MethodName)) ∈ lw_g := wk_in 405 (by decide +kernel) (by decide +kernel)
theorem hw_406 : (Jvm.Cond.code ({ cls := "LazyMotion$Motion", name := "narrow", desc := "([JIJ)Z" } : Jvm.MethodName) prog_3_method_17_code (6 : Nat) (Option.some Jvm.ClassFile.FieldType.boolean)) ∈ lw_g := wk_in 406 (by decide +kernel) (by decide +kernel)
theorem hw_407 : (Jvm.Cond.methodLink "LazyMotion$Motion" (66 : Nat) ({ cls := "LazyMotion$Motion", name := "flowWanted", desc := "()V" } : Jvm.MethodName)) ∈ lw_g := wk_in 407 (by decide +kernel) (by decide +kernel)
theorem hw_409 : (Jvm.Cond.instanceMethod ({ cls := "LazyMotion$Motion", name := "flowWanted", desc := "()V" } : Jvm.MethodName)) ∈ lw_g := wk_in 409 (by decide +kernel) (by decide +kernel)
theorem hw_410 : (Jvm.Cond.code ({ cls := "LazyMotion$Motion", name := "flowWanted", desc := "()V" } : Jvm.MethodName) prog_3_method_13_code (4 : Nat) (Option.none : Option Jvm.ClassFile.FieldType)) ∈ lw_g := wk_in 410 (by decide +kernel) (by decide +kernel)
theorem hw_411 : (Jvm.Cond.methodLink "LazyMotion$Motion" (120 : Nat) ({ cls := "LazyMotion$Motion", name := "wantedByAll", desc := "(II)J" } : Jvm.MethodName)) ∈ lw_g := wk_in 411 (by decide +kernel) (by decide +kernel)
theorem hw_413 : (Jvm.Cond.instanceMethod ({ cls := "LazyMotion$Motion", name := "wantedByAll", desc := "(II)J" } : Jvm.MethodName)) ∈ lw_g := wk_in 413 (by decide +kernel) (by decide +kernel)
theorem hw_414 : (Jvm.Cond.code ({ cls := "LazyMotion$Motion", name := "wantedByAll", desc := "(II)J" } : Jvm.MethodName) prog_3_method_14_code (3 : Nat) (Option.some Jvm.ClassFile.FieldType.long)) ∈ lw_g := wk_in 414 (by decide +kernel) (by decide +kernel)
theorem hw_415 : (Jvm.Cond.methodLink "LazyMotion$Motion" (69 : Nat) ({ cls := "LazyMotion$Motion", name := "flowLate", desc := "()V" } : Jvm.MethodName)) ∈ lw_g := wk_in 415 (by decide +kernel) (by decide +kernel)
theorem hw_417 : (Jvm.Cond.instanceMethod ({ cls := "LazyMotion$Motion", name := "flowLate", desc := "()V" } : Jvm.MethodName)) ∈ lw_g := wk_in 417 (by decide +kernel) (by decide +kernel)
theorem hw_418 : (Jvm.Cond.code ({ cls := "LazyMotion$Motion", name := "flowLate", desc := "()V" } : Jvm.MethodName) prog_3_method_15_code (4 : Nat) (Option.none : Option Jvm.ClassFile.FieldType)) ∈ lw_g := wk_in 418 (by decide +kernel) (by decide +kernel)
theorem hw_419 : (Jvm.Cond.methodLink "LazyMotion$Motion" (91 : Nat) ({ cls := "LazyMotion$Motion", name := "laterOn", desc := "(II)J" } : Jvm.MethodName)) ∈ lw_g := wk_in 419 (by decide +kernel) (by decide +kernel)
theorem hw_421 : (Jvm.Cond.instanceMethod ({ cls := "LazyMotion$Motion", name := "laterOn", desc := "(II)J" } : Jvm.MethodName)) ∈ lw_g := wk_in 421 (by decide +kernel) (by decide +kernel)
theorem hw_422 : (Jvm.Cond.code ({ cls := "LazyMotion$Motion", name := "laterOn", desc := "(II)J" } : Jvm.MethodName) prog_3_method_7_code (5 : Nat) (Option.some Jvm.ClassFile.FieldType.long)) ∈ lw_g := wk_in 422 (by decide +kernel) (by decide +kernel)
theorem hw_423 : (Jvm.Cond.methodLink "LazyMotion$Motion" (123 : Nat) ({ cls := "LazyMotion$Motion", name := "narrowLate", desc := "(II)Z" } : Jvm.MethodName)) ∈ lw_g := wk_in 423 (by decide +kernel) (by decide +kernel)
theorem hw_425 : (Jvm.Cond.instanceMethod ({ cls := "LazyMotion$Motion", name := "narrowLate", desc := "(II)Z" } : Jvm.MethodName)) ∈ lw_g := wk_in 425 (by decide +kernel) (by decide +kernel)
theorem hw_426 : (Jvm.Cond.code ({ cls := "LazyMotion$Motion", name := "narrowLate", desc := "(II)Z" } : Jvm.MethodName) prog_3_method_16_code (3 : Nat) (Option.some Jvm.ClassFile.FieldType.boolean)) ∈ lw_g := wk_in 426 (by decide +kernel) (by decide +kernel)
theorem hw_427 : (Jvm.Cond.methodLink "LazyMotion" (107 : Nat) ({ cls := "LazyMotion$Motion", name := "countMoved", desc := "()I" } : Jvm.MethodName)) ∈ lw_g := wk_in 427 (by decide +kernel) (by decide +kernel)
theorem hw_428 : (Jvm.Cond.instanceMethod ({ cls := "LazyMotion$Motion", name := "countMoved", desc := "()I" } : Jvm.MethodName)) ∈ lw_g := wk_in 428 (by decide +kernel) (by decide +kernel)
theorem hw_429 : (Jvm.Cond.selects "LazyMotion$Motion" ({ cls := "LazyMotion$Motion", name := "countMoved", desc := "()I" } : Jvm.MethodName) ({ cls := "LazyMotion$Motion", name := "countMoved", desc := "()I" } : Jvm.MethodName)) ∈ lw_g := wk_in 429 (by decide +kernel) (by decide +kernel)
theorem hw_430 : (Jvm.Cond.code ({ cls := "LazyMotion$Motion", name := "countMoved", desc := "()I" } : Jvm.MethodName) prog_3_method_3_code (4 : Nat) (Option.some Jvm.ClassFile.FieldType.int)) ∈ lw_g := wk_in 430 (by decide +kernel) (by decide +kernel)
theorem hw_431 : (Jvm.Cond.methodLink "LazyMotion$Motion" (74 : Nat) ({ cls := "java/lang/Long", name := "bitCount", desc := "(J)I" } : Jvm.MethodName)) ∈ lw_g := wk_in 431 (by decide +kernel) (by decide +kernel)
theorem hw_432 : (Jvm.Cond.static ({ cls := "java/lang/Long", name := "bitCount", desc := "(J)I" } : Jvm.MethodName)) ∈ lw_g := wk_in 432 (by decide +kernel) (by decide +kernel)
theorem hw_433 : (Jvm.Cond.code ({ cls := "java/lang/Long", name := "bitCount", desc := "(J)I" } : Jvm.MethodName) prog_11_method_50_code (2 : Nat) (Option.some Jvm.ClassFile.FieldType.int)) ∈ lw_g := wk_in 433 (by decide +kernel) (by decide +kernel)
theorem hw_434 : (Jvm.Cond.constantLong "java/lang/Long" (314 : Nat) (6148914691236517205 : Int64)) ∈ lw_g := wk_in 434 (by decide +kernel) (by decide +kernel)
theorem hw_435 : (Jvm.Cond.constantLong "java/lang/Long" (316 : Nat) (3689348814741910323 : Int64)) ∈ lw_g := wk_in 435 (by decide +kernel) (by decide +kernel)
theorem hw_436 : (Jvm.Cond.constantLong "java/lang/Long" (318 : Nat) (1085102592571150095 : Int64)) ∈ lw_g := wk_in 436 (by decide +kernel) (by decide +kernel)
theorem hw_462 : (Jvm.Cond.methodLink "LazyMotion" (117 : Nat) ({ cls := "LazyMotion$Motion", name := "setOf", desc := "(II)J" } : Jvm.MethodName)) ∈ lw_g := wk_in 462 (by decide +kernel) (by decide +kernel)
theorem hw_463 : (Jvm.Cond.instanceMethod ({ cls := "LazyMotion$Motion", name := "setOf", desc := "(II)J" } : Jvm.MethodName)) ∈ lw_g := wk_in 463 (by decide +kernel) (by decide +kernel)
theorem hw_464 : (Jvm.Cond.selects "LazyMotion$Motion" ({ cls := "LazyMotion$Motion", name := "setOf", desc := "(II)J" } : Jvm.MethodName) ({ cls := "LazyMotion$Motion", name := "setOf", desc := "(II)J" } : Jvm.MethodName)) ∈ lw_g := wk_in 464 (by decide +kernel) (by decide +kernel)
theorem hw_465 : (Jvm.Cond.code ({ cls := "LazyMotion$Motion", name := "setOf", desc := "(II)J" } : Jvm.MethodName) prog_3_method_4_code (3 : Nat) (Option.some Jvm.ClassFile.FieldType.long)) ∈ lw_g := wk_in 465 (by decide +kernel) (by decide +kernel)
theorem hw_474 : (Jvm.Cond.methodLink "LazyMotion" (121 : Nat) ({ cls := "LazyMotion$Motion", name := "hasEdge", desc := "(II)Z" } : Jvm.MethodName)) ∈ lw_g := wk_in 474 (by decide +kernel) (by decide +kernel)
theorem hw_475 : (Jvm.Cond.instanceMethod ({ cls := "LazyMotion$Motion", name := "hasEdge", desc := "(II)Z" } : Jvm.MethodName)) ∈ lw_g := wk_in 475 (by decide +kernel) (by decide +kernel)
theorem hw_476 : (Jvm.Cond.selects "LazyMotion$Motion" ({ cls := "LazyMotion$Motion", name := "hasEdge", desc := "(II)Z" } : Jvm.MethodName) ({ cls := "LazyMotion$Motion", name := "hasEdge", desc := "(II)Z" } : Jvm.MethodName)) ∈ lw_g := wk_in 476 (by decide +kernel) (by decide +kernel)
theorem hw_477 : (Jvm.Cond.code ({ cls := "LazyMotion$Motion", name := "hasEdge", desc := "(II)Z" } : Jvm.MethodName) prog_3_method_5_code (3 : Nat) (Option.some Jvm.ClassFile.FieldType.boolean)) ∈ lw_g := wk_in 477 (by decide +kernel) (by decide +kernel)
theorem hw_478 : (Jvm.Cond.methodLink "LazyMotion$Motion" (80 : Nat) ({ cls := "LazyMotion$Program", name := "hasBlock", desc := "(I)Z" } : Jvm.MethodName)) ∈ lw_g := wk_in 478 (by decide +kernel) (by decide +kernel)
theorem hw_495 : (Jvm.Cond.methodLink "LazyMotion" (130 : Nat) ({ cls := "LazyMotion$Motion", name := "putOn", desc := "(II)J" } : Jvm.MethodName)) ∈ lw_g := wk_in 495 (by decide +kernel) (by decide +kernel)
theorem hw_496 : (Jvm.Cond.instanceMethod ({ cls := "LazyMotion$Motion", name := "putOn", desc := "(II)J" } : Jvm.MethodName)) ∈ lw_g := wk_in 496 (by decide +kernel) (by decide +kernel)
theorem hw_497 : (Jvm.Cond.selects "LazyMotion$Motion" ({ cls := "LazyMotion$Motion", name := "putOn", desc := "(II)J" } : Jvm.MethodName) ({ cls := "LazyMotion$Motion", name := "putOn", desc := "(II)J" } : Jvm.MethodName)) ∈ lw_g := wk_in 497 (by decide +kernel) (by decide +kernel)
theorem hw_498 : (Jvm.Cond.code ({ cls := "LazyMotion$Motion", name := "putOn", desc := "(II)J" } : Jvm.MethodName) prog_3_method_6_code (3 : Nat) (Option.some Jvm.ClassFile.FieldType.long)) ∈ lw_g := wk_in 498 (by decide +kernel) (by decide +kernel)
theorem hw_506 : (Jvm.Cond.methodLink "LazyMotion" (133 : Nat) ({ cls := "LazyMotion$Program", name := "findExpression", desc := "(III)I" } : Jvm.MethodName)) ∈ lw_g := wk_in 506 (by decide +kernel) (by decide +kernel)
theorem hw_515 : (Jvm.Cond.methodLink "LazyMotion" (138 : Nat) ({ cls := "LazyMotion$Machine", name := "reset", desc := "(III)V" } : Jvm.MethodName)) ∈ lw_g := wk_in 515 (by decide +kernel) (by decide +kernel)
theorem hw_516 : (Jvm.Cond.instanceMethod ({ cls := "LazyMotion$Machine", name := "reset", desc := "(III)V" } : Jvm.MethodName)) ∈ lw_g := wk_in 516 (by decide +kernel) (by decide +kernel)
theorem hw_517 : (Jvm.Cond.selects "LazyMotion$Machine" ({ cls := "LazyMotion$Machine", name := "reset", desc := "(III)V" } : Jvm.MethodName) ({ cls := "LazyMotion$Machine", name := "reset", desc := "(III)V" } : Jvm.MethodName)) ∈ lw_g := wk_in 517 (by decide +kernel) (by decide +kernel)
theorem hw_518 : (Jvm.Cond.code ({ cls := "LazyMotion$Machine", name := "reset", desc := "(III)V" } : Jvm.MethodName) prog_2_method_2_code (4 : Nat) (Option.none : Option Jvm.ClassFile.FieldType)) ∈ lw_g := wk_in 518 (by decide +kernel) (by decide +kernel)
theorem hw_519 : (Jvm.Cond.methodLink "LazyMotion$Machine" (42 : Nat) ({ cls := "java/util/Arrays", name := "fill", desc := "([II)V" } : Jvm.MethodName)) ∈ lw_g := wk_in 519 (by decide +kernel) (by decide +kernel)
theorem hw_520 : (Jvm.Cond.static ({ cls := "java/util/Arrays", name := "fill", desc := "([II)V" } : Jvm.MethodName)) ∈ lw_g := wk_in 520 (by decide +kernel) (by decide +kernel)
theorem hw_521 : (Jvm.Cond.code ({ cls := "java/util/Arrays", name := "fill", desc := "([II)V" } : Jvm.MethodName) prog_16_method_103_code (4 : Nat) (Option.none : Option Jvm.ClassFile.FieldType)) ∈ lw_g := wk_in 521 (by decide +kernel) (by decide +kernel)
theorem hw_522 : (Jvm.Cond.methodLink "LazyMotion" (142 : Nat) ({ cls := "LazyMotion$Machine", name := "goThrough", desc := "(Z)V" } : Jvm.MethodName)) ∈ lw_g := wk_in 522 (by decide +kernel) (by decide +kernel)
theorem hw_523 : (Jvm.Cond.instanceMethod ({ cls := "LazyMotion$Machine", name := "goThrough", desc := "(Z)V" } : Jvm.MethodName)) ∈ lw_g := wk_in 523 (by decide +kernel) (by decide +kernel)
theorem hw_524 : (Jvm.Cond.selects "LazyMotion$Machine" ({ cls := "LazyMotion$Machine", name := "goThrough", desc := "(Z)V" } : Jvm.MethodName) ({ cls := "LazyMotion$Machine", name := "goThrough", desc := "(Z)V" } : Jvm.MethodName)) ∈ lw_g := wk_in 524 (by decide +kernel) (by decide +kernel)
theorem hw_525 : (Jvm.Cond.code ({ cls := "LazyMotion$Machine", name := "goThrough", desc := "(Z)V" } : Jvm.MethodName) prog_2_method_3_code (5 : Nat) (Option.none : Option Jvm.ClassFile.FieldType)) ∈ lw_g := wk_in 525 (by decide +kernel) (by decide +kernel)
theorem hw_526 : (Jvm.Cond.methodLink "LazyMotion$Machine" (48 : Nat) ({ cls := "LazyMotion$Motion", name := "putOn", desc := "(II)J" } : Jvm.MethodName)) ∈ lw_g := wk_in 526 (by decide +kernel) (by decide +kernel)
theorem hw_527 : (Jvm.Cond.methodLink "LazyMotion$Machine" (54 : Nat) ({ cls := "LazyMotion$Machine", name := "goAlong", desc := "(J)V" } : Jvm.MethodName)) ∈ lw_g := wk_in 527 (by decide +kernel) (by decide +kernel)
theorem hw_529 : (Jvm.Cond.instanceMethod ({ cls := "LazyMotion$Machine", name := "goAlong", desc := "(J)V" } : Jvm.MethodName)) ∈ lw_g := wk_in 529 (by decide +kernel) (by decide +kernel)
theorem hw_530 : (Jvm.Cond.code ({ cls := "LazyMotion$Machine", name := "goAlong", desc := "(J)V" } : Jvm.MethodName) prog_2_method_4_code (4 : Nat) (Option.none : Option Jvm.ClassFile.FieldType)) ∈ lw_g := wk_in 530 (by decide +kernel) (by decide +kernel)
theorem hw_531 : (Jvm.Cond.methodLink "LazyMotion$Machine" (80 : Nat) ({ cls := "LazyMotion$Machine", name := "compute", desc := "(I)I" } : Jvm.MethodName)) ∈ lw_g := wk_in 531 (by decide +kernel) (by decide +kernel)
theorem hw_533 : (Jvm.Cond.instanceMethod ({ cls := "LazyMotion$Machine", name := "compute", desc := "(I)I" } : Jvm.MethodName)) ∈ lw_g := wk_in 533 (by decide +kernel) (by decide +kernel)
theorem hw_534 : (Jvm.Cond.code ({ cls := "LazyMotion$Machine", name := "compute", desc := "(I)I" } : Jvm.MethodName) prog_2_method_8_code (2 : Nat) (Option.some Jvm.ClassFile.FieldType.int)) ∈ lw_g := wk_in 534 (by decide +kernel) (by decide +kernel)
theorem hw_535 : (Jvm.Cond.methodLink "LazyMotion$Machine" (106 : Nat) ({ cls := "LazyMotion$Program", name := "valueOf", desc := "(I[I)I" } : Jvm.MethodName)) ∈ lw_g := wk_in 535 (by decide +kernel) (by decide +kernel)
theorem hw_536 : (Jvm.Cond.instanceMethod ({ cls := "LazyMotion$Program", name := "valueOf", desc := "(I[I)I" } : Jvm.MethodName)) ∈ lw_g := wk_in 536 (by decide +kernel) (by decide +kernel)
theorem hw_537 : (Jvm.Cond.selects "LazyMotion$Program" ({ cls := "LazyMotion$Program", name := "valueOf", desc := "(I[I)I" } : Jvm.MethodName) ({ cls := "LazyMotion$Program", name := "valueOf", desc := "(I[I)I" } : Jvm.MethodName)) ∈ lw_g := wk_in 537 (by decide +kernel) (by decide +kernel)
theorem hw_538 : (Jvm.Cond.code ({ cls := "LazyMotion$Program", name := "valueOf", desc := "(I[I)I" } : Jvm.MethodName) prog_4_method_10_code (5 : Nat) (Option.some Jvm.ClassFile.FieldType.int)) ∈ lw_g := wk_in 538 (by decide +kernel) (by decide +kernel)
theorem hw_539 : (Jvm.Cond.methodLink "LazyMotion$Machine" (62 : Nat) ({ cls := "LazyMotion$Machine", name := "goThroughBlock", desc := "(IJ)V" } : Jvm.MethodName)) ∈ lw_g := wk_in 539 (by decide +kernel) (by decide +kernel)
theorem hw_541 : (Jvm.Cond.instanceMethod ({ cls := "LazyMotion$Machine", name := "goThroughBlock", desc := "(IJ)V" } : Jvm.MethodName)) ∈ lw_g := wk_in 541 (by decide +kernel) (by decide +kernel)
theorem hw_542 : (Jvm.Cond.code ({ cls := "LazyMotion$Machine", name := "goThroughBlock", desc := "(IJ)V" } : Jvm.MethodName) prog_2_method_5_code (10 : Nat) (Option.none : Option Jvm.ClassFile.FieldType)) ∈ lw_g := wk_in 542 (by decide +kernel) (by decide +kernel)
theorem hw_543 : (Jvm.Cond.constantLong "LazyMotion$Machine" (96 : Nat) (-1 : Int64)) ∈ lw_g := wk_in 543 (by decide +kernel) (by decide +kernel)
theorem hw_544 : (Jvm.Cond.methodLink "LazyMotion$Machine" (98 : Nat) ({ cls := "LazyMotion$Machine", name := "goThroughSimple", desc := "(III)V" } : Jvm.MethodName)) ∈ lw_g := wk_in 544 (by decide +kernel) (by decide +kernel)
theorem hw_546 : (Jvm.Cond.instanceMethod ({ cls := "LazyMotion$Machine", name := "goThroughSimple", desc := "(III)V" } : Jvm.MethodName)) ∈ lw_g := wk_in 546 (by decide +kernel) (by decide +kernel)
theorem hw_547 : (Jvm.Cond.code ({ cls := "LazyMotion$Machine", name := "goThroughSimple", desc := "(III)V" } : Jvm.MethodName) prog_2_method_6_code (4 : Nat) (Option.none : Option Jvm.ClassFile.FieldType)) ∈ lw_g := wk_in 547 (by decide +kernel) (by decide +kernel)
theorem hw_548 : (Jvm.Cond.methodLink "LazyMotion$Machine" (102 : Nat) ({ cls := "LazyMotion$Machine", name := "giveOut", desc := "(I)V" } : Jvm.MethodName)) ∈ lw_g := wk_in 548 (by decide +kernel) (by decide +kernel)
theorem hw_550 : (Jvm.Cond.instanceMethod ({ cls := "LazyMotion$Machine", name := "giveOut", desc := "(I)V" } : Jvm.MethodName)) ∈ lw_g := wk_in 550 (by decide +kernel) (by decide +kernel)
theorem hw_551 : (Jvm.Cond.code ({ cls := "LazyMotion$Machine", name := "giveOut", desc := "(I)V" } : Jvm.MethodName) prog_2_method_7_code (2 : Nat) (Option.none : Option Jvm.ClassFile.FieldType)) ∈ lw_g := wk_in 551 (by decide +kernel) (by decide +kernel)
theorem hw_582 : (Jvm.Cond.fieldLink "LazyMotionModel" (74 : Nat) "LazyMotionModel" "thrown" "I") ∈ lw_g := wk_in 582 (by decide +kernel) (by decide +kernel)
theorem hw_583 : (Jvm.Cond.fieldLink "LazyMotionModel" (78 : Nat) "LazyMotionModel" "blocks" "I") ∈ lw_g := wk_in 583 (by decide +kernel) (by decide +kernel)
theorem hw_584 : (Jvm.Cond.fieldLink "LazyMotionModel" (7 : Nat) "LazyMotionModel" "sizes" "[I") ∈ lw_g := wk_in 584 (by decide +kernel) (by decide +kernel)
theorem hw_585 : (Jvm.Cond.fieldLink "LazyMotionModel" (13 : Nat) "LazyMotionModel" "statements" "[I") ∈ lw_g := wk_in 585 (by decide +kernel) (by decide +kernel)
theorem hw_586 : (Jvm.Cond.fieldLink "LazyMotionModel" (16 : Nat) "LazyMotionModel" "ends" "[I") ∈ lw_g := wk_in 586 (by decide +kernel) (by decide +kernel)
theorem hw_587 : (Jvm.Cond.fieldLink "LazyMotionModel" (89 : Nat) "LazyMotionModel" "expressions" "I") ∈ lw_g := wk_in 587 (by decide +kernel) (by decide +kernel)
theorem hw_588 : (Jvm.Cond.fieldLink "LazyMotionModel" (19 : Nat) "LazyMotionModel" "left" "[I") ∈ lw_g := wk_in 588 (by decide +kernel) (by decide +kernel)
theorem hw_589 : (Jvm.Cond.fieldLink "LazyMotionModel" (22 : Nat) "LazyMotionModel" "operator" "[I") ∈ lw_g := wk_in 589 (by decide +kernel) (by decide +kernel)
theorem hw_590 : (Jvm.Cond.fieldLink "LazyMotionModel" (25 : Nat) "LazyMotionModel" "right" "[I") ∈ lw_g := wk_in 590 (by decide +kernel) (by decide +kernel)
theorem hw_591 : (Jvm.Cond.fieldLink "LazyMotionModel" (85 : Nat) "LazyMotionModel" "planned" "Z") ∈ lw_g := wk_in 591 (by decide +kernel) (by decide +kernel)
theorem hw_592 : (Jvm.Cond.fieldLink "LazyMotionModel" (152 : Nat) "LazyMotionModel" "plans" "I") ∈ lw_g := wk_in 592 (by decide +kernel) (by decide +kernel)
theorem hw_593 : (Jvm.Cond.fieldLink "LazyMotionModel" (139 : Nat) "LazyMotionModel" "moved" "I") ∈ lw_g := wk_in 593 (by decide +kernel) (by decide +kernel)
theorem hw_594 : (Jvm.Cond.fieldLink "LazyMotionModel" (28 : Nat) "LazyMotionModel" "reached" "[Z") ∈ lw_g := wk_in 594 (by decide +kernel) (by decide +kernel)
theorem hw_595 : (Jvm.Cond.fieldLink "LazyMotionModel" (32 : Nat) "LazyMotionModel" "sets" "[I") ∈ lw_g := wk_in 595 (by decide +kernel) (by decide +kernel)
theorem hw_596 : (Jvm.Cond.fieldLink "LazyMotionModel" (35 : Nat) "LazyMotionModel" "puts" "[I") ∈ lw_g := wk_in 596 (by decide +kernel) (by decide +kernel)
theorem hw_597 : (Jvm.Cond.fieldLink "LazyMotionModel" (38 : Nat) "LazyMotionModel" "changes" "[Z") ∈ lw_g := wk_in 597 (by decide +kernel) (by decide +kernel)
theorem hw_598 : (Jvm.Cond.fieldLink "LazyMotionModel" (41 : Nat) "LazyMotionModel" "asks" "[Z") ∈ lw_g := wk_in 598 (by decide +kernel) (by decide +kernel)
theorem hw_599 : (Jvm.Cond.fieldLink "LazyMotionModel" (44 : Nat) "LazyMotionModel" "leaves" "[Z") ∈ lw_g := wk_in 599 (by decide +kernel) (by decide +kernel)
theorem hw_601 : (Jvm.Cond.fieldLink "LazyMotionModel" (50 : Nat) "LazyMotionModel" "behind" "[Z") ∈ lw_g := wk_in 601 (by decide +kernel) (by decide +kernel)
theorem hw_602 : (Jvm.Cond.fieldLink "LazyMotionModel" (53 : Nat) "LazyMotionModel" "wanted" "[Z") ∈ lw_g := wk_in 602 (by decide +kernel) (by decide +kernel)
theorem hw_604 : (Jvm.Cond.fieldLink "LazyMotionModel" (59 : Nat) "LazyMotionModel" "late" "[Z") ∈ lw_g := wk_in 604 (by decide +kernel) (by decide +kernel)
theorem hw_605 : (Jvm.Cond.fieldLink "LazyMotionModel" (62 : Nat) "LazyMotionModel" "values" "[I") ∈ lw_g := wk_in 605 (by decide +kernel) (by decide +kernel)
theorem hw_606 : (Jvm.Cond.fieldLink "LazyMotionModel" (65 : Nat) "LazyMotionModel" "temporary" "[I") ∈ lw_g := wk_in 606 (by decide +kernel) (by decide +kernel)
theorem hw_607 : (Jvm.Cond.fieldLink "LazyMotionModel" (68 : Nat) "LazyMotionModel" "counts" "[I") ∈ lw_g := wk_in 607 (by decide +kernel) (by decide +kernel)
theorem hw_608 : (Jvm.Cond.fieldLink "LazyMotionModel" (169 : Nat) "LazyMotionModel" "outs" "I") ∈ lw_g := wk_in 608 (by decide +kernel) (by decide +kernel)
theorem hw_609 : (Jvm.Cond.fieldLink "LazyMotionModel" (172 : Nat) "LazyMotionModel" "passed" "I") ∈ lw_g := wk_in 609 (by decide +kernel) (by decide +kernel)
theorem hw_610 : (Jvm.Cond.fieldLink "LazyMotionModel" (160 : Nat) "LazyMotionModel" "made" "I") ∈ lw_g := wk_in 610 (by decide +kernel) (by decide +kernel)
theorem hw_611 : (Jvm.Cond.fieldLink "LazyMotionModel" (71 : Nat) "LazyMotionModel" "out" "[I") ∈ lw_g := wk_in 611 (by decide +kernel) (by decide +kernel)
theorem hw_612 : (Jvm.Cond.lays "LazyMotionModel" "LazyMotionModel" "thrown" "I") ∈ lw_g := wk_in 612 (by decide +kernel) (by decide +kernel)
theorem hw_614 : (Jvm.Cond.lays "LazyMotionModel" "LazyMotionModel" "blocks" "I") ∈ lw_g := wk_in 614 (by decide +kernel) (by decide +kernel)
theorem hw_616 : (Jvm.Cond.laysFinal "LazyMotionModel" "LazyMotionModel" "sizes" "[I") ∈ lw_g := wk_in 616 (by decide +kernel) (by decide +kernel)
theorem hw_618 : (Jvm.Cond.laysFinal "LazyMotionModel" "LazyMotionModel" "statements" "[I") ∈ lw_g := wk_in 618 (by decide +kernel) (by decide +kernel)
theorem hw_620 : (Jvm.Cond.laysFinal "LazyMotionModel" "LazyMotionModel" "ends" "[I") ∈ lw_g := wk_in 620 (by decide +kernel) (by decide +kernel)
theorem hw_622 : (Jvm.Cond.lays "LazyMotionModel" "LazyMotionModel" "expressions" "I") ∈ lw_g := wk_in 622 (by decide +kernel) (by decide +kernel)
theorem hw_624 : (Jvm.Cond.laysFinal "LazyMotionModel" "LazyMotionModel" "left" "[I") ∈ lw_g := wk_in 624 (by decide +kernel) (by decide +kernel)
theorem hw_626 : (Jvm.Cond.laysFinal "LazyMotionModel" "LazyMotionModel" "operator" "[I") ∈ lw_g := wk_in 626 (by decide +kernel) (by decide +kernel)
theorem hw_628 : (Jvm.Cond.laysFinal "LazyMotionModel" "LazyMotionModel" "right" "[I") ∈ lw_g := wk_in 628 (by decide +kernel) (by decide +kernel)
theorem hw_630 : (Jvm.Cond.lays "LazyMotionModel" "LazyMotionModel" "planned" "Z") ∈ lw_g := wk_in 630 (by decide +kernel) (by decide +kernel)
theorem hw_632 : (Jvm.Cond.lays "LazyMotionModel" "LazyMotionModel" "plans" "I") ∈ lw_g := wk_in 632 (by decide +kernel) (by decide +kernel)
theorem hw_634 : (Jvm.Cond.lays "LazyMotionModel" "LazyMotionModel" "moved" "I") ∈ lw_g := wk_in 634 (by decide +kernel) (by decide +kernel)
theorem hw_636 : (Jvm.Cond.laysFinal "LazyMotionModel" "LazyMotionModel" "reached" "[Z") ∈ lw_g := wk_in 636 (by decide +kernel) (by decide +kernel)
theorem hw_638 : (Jvm.Cond.laysFinal "LazyMotionModel" "LazyMotionModel" "sets" "[I") ∈ lw_g := wk_in 638 (by decide +kernel) (by decide +kernel)
theorem hw_640 : (Jvm.Cond.laysFinal "LazyMotionModel" "LazyMotionModel" "puts" "[I") ∈ lw_g := wk_in 640 (by decide +kernel) (by decide +kernel)
theorem hw_642 : (Jvm.Cond.laysFinal "LazyMotionModel" "LazyMotionModel" "changes" "[Z") ∈ lw_g := wk_in 642 (by decide +kernel) (by decide +kernel)
theorem hw_644 : (Jvm.Cond.laysFinal "LazyMotionModel" "LazyMotionModel" "asks" "[Z") ∈ lw_g := wk_in 644 (by decide +kernel) (by decide +kernel)
theorem hw_646 : (Jvm.Cond.laysFinal "LazyMotionModel" "LazyMotionModel" "leaves" "[Z") ∈ lw_g := wk_in 646 (by decide +kernel) (by decide +kernel)
theorem hw_648 : (Jvm.Cond.laysFinal "LazyMotionModel" "LazyMotionModel" "before" "[Z") ∈ lw_g := wk_in 648 (by decide +kernel) (by decide +kernel)
theorem hw_650 : (Jvm.Cond.laysFinal "LazyMotionModel" "LazyMotionModel" "behind" "[Z") ∈ lw_g := wk_in 650 (by decide +kernel) (by decide +kernel)
theorem hw_652 : (Jvm.Cond.laysFinal "LazyMotionModel" "LazyMotionModel" "wanted" "[Z") ∈ lw_g := wk_in 652 (by decide +kernel) (by decide +kernel)
theorem hw_654 : (Jvm.Cond.laysFinal "LazyMotionModel" "LazyMotionModel" "later" "[Z") ∈ lw_g := wk_in 654 (by decide +kernel) (by decide +kernel)
theorem hw_656 : (Jvm.Cond.laysFinal "LazyMotionModel" "LazyMotionModel" "late" "[Z") ∈ lw_g := wk_in 656 (by decide +kernel) (by decide +kernel)
theorem hw_658 : (Jvm.Cond.laysFinal "LazyMotionModel" "LazyMotionModel" "values" "[I") ∈ lw_g := wk_in 658 (by decide +kernel) (by decide +kernel)
theorem hw_660 : (Jvm.Cond.laysFinal "LazyMotionModel" "LazyMotionModel" "temporary" "[I") ∈ lw_g := wk_in 660 (by decide +kernel) (by decide +kernel)
theorem hw_662 : (Jvm.Cond.laysFinal "LazyMotionModel" "LazyMotionModel" "counts" "[I") ∈ lw_g := wk_in 662 (by decide +kernel) (by decide +kernel)
theorem hw_664 : (Jvm.Cond.lays "LazyMotionModel" "LazyMotionModel" "outs" "I") ∈ lw_g := wk_in 664 (by decide +kernel) (by decide +kernel)
theorem hw_666 : (Jvm.Cond.lays "LazyMotionModel" "LazyMotionModel" "passed" "I") ∈ lw_g := wk_in 666 (by decide +kernel) (by decide +kernel)
theorem hw_668 : (Jvm.Cond.lays "LazyMotionModel" "LazyMotionModel" "made" "I") ∈ lw_g := wk_in 668 (by decide +kernel) (by decide +kernel)
theorem hw_670 : (Jvm.Cond.laysFinal "LazyMotionModel" "LazyMotionModel" "out" "[I") ∈ lw_g := wk_in 670 (by decide +kernel) (by decide +kernel)
theorem hw_681 : (Jvm.Cond.methodLink "LazyMotionModel" (81 : Nat) ({ cls := "LazyMotionModel", name := "fail", desc := "(I)I" } : Jvm.MethodName)) ∈ lw_g := wk_in 681 (by decide +kernel) (by decide +kernel)
theorem hw_683 : (Jvm.Cond.instanceMethod ({ cls := "LazyMotionModel", name := "fail", desc := "(I)I" } : Jvm.MethodName)) ∈ lw_g := wk_in 683 (by decide +kernel) (by decide +kernel)
theorem hw_684 : (Jvm.Cond.code ({ cls := "LazyMotionModel", name := "fail", desc := "(I)I" } : Jvm.MethodName) prog_6_method_3_code (2 : Nat) (Option.some Jvm.ClassFile.FieldType.int)) ∈ lw_g := wk_in 684 (by decide +kernel) (by decide +kernel)
theorem hw_689 : (Jvm.Cond.methodLink "LazyMotionModel" (92 : Nat) ({ cls := "LazyMotionModel", name := "within", desc := "(III)Z" } : Jvm.MethodName)) ∈ lw_g := wk_in 689 (by decide +kernel) (by decide +kernel)
theorem hw_690 : (Jvm.Cond.static ({ cls := "LazyMotionModel", name := "within", desc := "(III)Z" } : Jvm.MethodName)) ∈ lw_g := wk_in 690 (by decide +kernel) (by decide +kernel)
theorem hw_691 : (Jvm.Cond.code ({ cls := "LazyMotionModel", name := "within", desc := "(III)Z" } : Jvm.MethodName) prog_6_method_4_code (3 : Nat) (Option.some Jvm.ClassFile.FieldType.boolean)) ∈ lw_g := wk_in 691 (by decide +kernel) (by decide +kernel)
theorem hw_692 : (Jvm.Cond.methodLink "LazyMotionModel" (96 : Nat) ({ cls := "LazyMotionModel", name := "find", desc := "(III)I" } : Jvm.MethodName)) ∈ lw_g := wk_in 692 (by decide +kernel) (by decide +kernel)
theorem hw_694 : (Jvm.Cond.instanceMethod ({ cls := "LazyMotionModel", name := "find", desc := "(III)I" } : Jvm.MethodName)) ∈ lw_g := wk_in 694 (by decide +kernel) (by decide +kernel)
theorem hw_695 : (Jvm.Cond.code ({ cls := "LazyMotionModel", name := "find", desc := "(III)I" } : Jvm.MethodName) prog_6_method_6_code (6 : Nat) (Option.some Jvm.ClassFile.FieldType.int)) ∈ lw_g := wk_in 695 (by decide +kernel) (by decide +kernel)
theorem hw_704 : (Jvm.Cond.methodLink "LazyMotionModel" (142 : Nat) ({ cls := "LazyMotionModel", name := "whole", desc := "()Z" } : Jvm.MethodName)) ∈ lw_g := wk_in 704 (by decide +kernel) (by decide +kernel)
theorem hw_706 : (Jvm.Cond.instanceMethod ({ cls := "LazyMotionModel", name := "whole", desc := "()Z" } : Jvm.MethodName)) ∈ lw_g := wk_in 706 (by decide +kernel) (by decide +kernel)
theorem hw_707 : (Jvm.Cond.code ({ cls := "LazyMotionModel", name := "whole", desc := "()Z" } : Jvm.MethodName) prog_6_method_12_code (3 : Nat) (Option.some Jvm.ClassFile.FieldType.boolean)) ∈ lw_g := wk_in 707 (by decide +kernel) (by decide +kernel)
theorem hw_708 : (Jvm.Cond.methodLink "LazyMotionModel" (100 : Nat) ({ cls := "LazyMotionModel", name := "next", desc := "(II)I" } : Jvm.MethodName)) ∈ lw_g := wk_in 708 (by decide +kernel) (by decide +kernel)
theorem hw_710 : (Jvm.Cond.instanceMethod ({ cls := "LazyMotionModel", name := "next", desc := "(II)I" } : Jvm.MethodName)) ∈ lw_g := wk_in 710 (by decide +kernel) (by decide +kernel)
theorem hw_711 : (Jvm.Cond.code ({ cls := "LazyMotionModel", name := "next", desc := "(II)I" } : Jvm.MethodName) prog_6_method_9_code (4 : Nat) (Option.some Jvm.ClassFile.FieldType.int)) ∈ lw_g := wk_in 711 (by decide +kernel) (by decide +kernel)
theorem hw_712 : (Jvm.Cond.methodLink "LazyMotionModel" (146 : Nat) ({ cls := "LazyMotionModel", name := "reach", desc := "()V" } : Jvm.MethodName)) ∈ lw_g := wk_in 712 (by decide +kernel) (by decide +kernel)
theorem hw_714 : (Jvm.Cond.instanceMethod ({ cls := "LazyMotionModel", name := "reach", desc := "()V" } : Jvm.MethodName)) ∈ lw_g := wk_in 714 (by decide +kernel) (by decide +kernel)
theorem hw_715 : (Jvm.Cond.code ({ cls := "LazyMotionModel", name := "reach", desc := "()V" } : Jvm.MethodName) prog_6_method_11_code (5 : Nat) (Option.none : Option Jvm.ClassFile.FieldType)) ∈ lw_g := wk_in 715 (by decide +kernel) (by decide +kernel)
theorem hw_716 : (Jvm.Cond.methodLink "LazyMotionModel" (149 : Nat) ({ cls := "LazyMotionModel", name := "plans", desc := "(I)V" } : Jvm.MethodName)) ∈ lw_g := wk_in 716 (by decide +kernel) (by decide +kernel)
theorem hw_718 : (Jvm.Cond.instanceMethod ({ cls := "LazyMotionModel", name := "plans", desc := "(I)V" } : Jvm.MethodName)) ∈ lw_g := wk_in 718 (by decide +kernel) (by decide +kernel)
theorem hw_719 : (Jvm.Cond.code ({ cls := "LazyMotionModel", name := "plans", desc := "(I)V" } : Jvm.MethodName) prog_6_method_22_code (6 : Nat) (Option.none : Option Jvm.ClassFile.FieldType)) ∈ lw_g := wk_in 719 (by decide +kernel) (by decide +kernel)
theorem hw_720 : (Jvm.Cond.methodLink "LazyMotionModel" (127 : Nat) ({ cls := "LazyMotionModel", name := "look", desc := "(II)V" } : Jvm.MethodName)) ∈ lw_g := wk_in 720 (by decide +kernel) (by decide +kernel)
theorem hw_722 : (Jvm.Cond.instanceMethod ({ cls := "LazyMotionModel", name := "look", desc := "(II)V" } : Jvm.MethodName)) ∈ lw_g := wk_in 722 (by decide +kernel) (by decide +kernel)
theorem hw_723 : (Jvm.Cond.code ({ cls := "LazyMotionModel", name := "look", desc := "(II)V" } : Jvm.MethodName) prog_6_method_14_code (6 : Nat) (Option.none : Option Jvm.ClassFile.FieldType)) ∈ lw_g := wk_in 723 (by decide +kernel) (by decide +kernel)
theorem hw_724 : (Jvm.Cond.methodLink "LazyMotionModel" (104 : Nat) ({ cls := "LazyMotionModel", name := "gives", desc := "(II)Z" } : Jvm.MethodName)) ∈ lw_g := wk_in 724 (by decide +kernel) (by decide +kernel)
theorem hw_726 : (Jvm.Cond.instanceMethod ({ cls := "LazyMotionModel", name := "gives", desc := "(II)Z" } : Jvm.MethodName)) ∈ lw_g := wk_in 726 (by decide +kernel) (by decide +kernel)
theorem hw_727 : (Jvm.Cond.code ({ cls := "LazyMotionModel", name := "gives", desc := "(II)Z" } : Jvm.MethodName) prog_6_method_13_code (3 : Nat) (Option.some Jvm.ClassFile.FieldType.boolean)) ∈ lw_g := wk_in 727 (by decide +kernel) (by decide +kernel)
theorem hw_728 : (Jvm.Cond.methodLink "LazyMotionModel" (131 : Nat) ({ cls := "LazyMotionModel", name := "settle", desc := "(I)V" } : Jvm.MethodName)) ∈ lw_g := wk_in 728 (by decide +kernel) (by decide +kernel)
theorem hw_730 : (Jvm.Cond.instanceMethod ({ cls := "LazyMotionModel", name := "settle", desc := "(I)V" } : Jvm.MethodName)) ∈ lw_g := wk_in 730 (by decide +kernel) (by decide +kernel)
theorem hw_731 : (Jvm.Cond.code ({ cls := "LazyMotionModel", name := "settle", desc := "(I)V" } : Jvm.MethodName) prog_6_method_20_code (6 : Nat) (Option.none : Option Jvm.ClassFile.FieldType)) ∈ lw_g := wk_in 731 (by decide +kernel) (by decide +kernel)
theorem hw_732 : (Jvm.Cond.methodLink "LazyMotionModel" (121 : Nat) ({ cls := "LazyMotionModel", name := "thereBefore", desc := "(I)Z" } : Jvm.MethodName)) ∈ lw_g := wk_in 732 (by decide +kernel) (by decide +kernel)
theorem hw_734 : (Jvm.Cond.instanceMethod ({ cls := "LazyMotionModel", name := "thereBefore", desc := "(I)Z" } : Jvm.MethodName)) ∈ lw_g := wk_in 734 (by decide +kernel) (by decide +kernel)
theorem hw_735 : (Jvm.Cond.code ({ cls := "LazyMotionModel", name := "thereBefore", desc := "(I)Z" } : Jvm.MethodName) prog_6_method_15_code (4 : Nat) (Option.some Jvm.ClassFile.FieldType.boolean)) ∈ lw_g := wk_in 735 (by decide +kernel) (by decide +kernel)
theorem hw_736 : (Jvm.Cond.methodLink "LazyMotionModel" (108 : Nat) ({ cls := "LazyMotionModel", name := "edge", desc := "(II)Z" } : Jvm.MethodName)) ∈ lw_g := wk_in 736 (by decide +kernel) (by decide +kernel)
theorem hw_738 : (Jvm.Cond.instanceMethod ({ cls := "LazyMotionModel", name := "edge", desc := "(II)Z" } : Jvm.MethodName)) ∈ lw_g := wk_in 738 (by decide +kernel) (by decide +kernel)
theorem hw_739 : (Jvm.Cond.code ({ cls := "LazyMotionModel", name := "edge", desc := "(II)Z" } : Jvm.MethodName) prog_6_method_10_code (3 : Nat) (Option.some Jvm.ClassFile.FieldType.boolean)) ∈ lw_g := wk_in 739 (by decide +kernel) (by decide +kernel)
theorem hw_740 : (Jvm.Cond.methodLink "LazyMotionModel" (111 : Nat) ({ cls := "LazyMotionModel", name := "wantedBehind", desc := "(I)Z" } : Jvm.MethodName)) ∈ lw_g := wk_in 740 (by decide +kernel) (by decide +kernel)
theorem hw_742 : (Jvm.Cond.instanceMethod ({ cls := "LazyMotionModel", name := "wantedBehind", desc := "(I)Z" } : Jvm.MethodName)) ∈ lw_g := wk_in 742 (by decide +kernel) (by decide +kernel)
theorem hw_743 : (Jvm.Cond.code ({ cls := "LazyMotionModel", name := "wantedBehind", desc := "(I)Z" } : Jvm.MethodName) prog_6_method_16_code (6 : Nat) (Option.some Jvm.ClassFile.FieldType.boolean)) ∈ lw_g := wk_in 743 (by decide +kernel) (by decide +kernel)
theorem hw_744 : (Jvm.Cond.methodLink "LazyMotionModel" (124 : Nat) ({ cls := "LazyMotionModel", name := "lateBefore", desc := "(I)Z" } : Jvm.MethodName)) ∈ lw_g := wk_in 744 (by decide +kernel) (by decide +kernel)
theorem hw_746 : (Jvm.Cond.instanceMethod ({ cls := "LazyMotionModel", name := "lateBefore", desc := "(I)Z" } : Jvm.MethodName)) ∈ lw_g := wk_in 746 (by decide +kernel) (by decide +kernel)
theorem hw_747 : (Jvm.Cond.code ({ cls := "LazyMotionModel", name := "lateBefore", desc := "(I)Z" } : Jvm.MethodName) prog_6_method_19_code (4 : Nat) (Option.some Jvm.ClassFile.FieldType.boolean)) ∈ lw_g := wk_in 747 (by decide +kernel) (by decide +kernel)
theorem hw_748 : (Jvm.Cond.methodLink "LazyMotionModel" (118 : Nat) ({ cls := "LazyMotionModel", name := "laterOn", desc := "(II)Z" } : Jvm.MethodName)) ∈ lw_g := wk_in 748 (by decide +kernel) (by decide +kernel)
theorem hw_750 : (Jvm.Cond.instanceMethod ({ cls := "LazyMotionModel", name := "laterOn", desc := "(II)Z" } : Jvm.MethodName)) ∈ lw_g := wk_in 750 (by decide +kernel) (by decide +kernel)
theorem hw_751 : (Jvm.Cond.code ({ cls := "LazyMotionModel", name := "laterOn", desc := "(II)Z" } : Jvm.MethodName) prog_6_method_18_code (3 : Nat) (Option.some Jvm.ClassFile.FieldType.boolean)) ∈ lw_g := wk_in 751 (by decide +kernel) (by decide +kernel)
theorem hw_752 : (Jvm.Cond.methodLink "LazyMotionModel" (115 : Nat) ({ cls := "LazyMotionModel", name := "earliest", desc := "(II)Z" } : Jvm.MethodName)) ∈ lw_g := wk_in 752 (by decide +kernel) (by decide +kernel)
theorem hw_754 : (Jvm.Cond.instanceMethod ({ cls := "LazyMotionModel", name := "earliest", desc := "(II)Z" } : Jvm.MethodName)) ∈ lw_g := wk_in 754 (by decide +kernel) (by decide +kernel)
theorem hw_755 : (Jvm.Cond.code ({ cls := "LazyMotionModel", name := "earliest", desc := "(II)Z" } : Jvm.MethodName) prog_6_method_17_code (3 : Nat) (Option.some Jvm.ClassFile.FieldType.boolean)) ∈ lw_g := wk_in 755 (by decide +kernel) (by decide +kernel)
theorem hw_756 : (Jvm.Cond.methodLink "LazyMotionModel" (135 : Nat) ({ cls := "LazyMotionModel", name := "mark", desc := "(IIIZ)V" } : Jvm.MethodName)) ∈ lw_g := wk_in 756 (by decide +kernel) (by decide +kernel)
theorem hw_758 : (Jvm.Cond.instanceMethod ({ cls := "LazyMotionModel", name := "mark", desc := "(IIIZ)V" } : Jvm.MethodName)) ∈ lw_g := wk_in 758 (by decide +kernel) (by decide +kernel)
theorem hw_759 : (Jvm.Cond.code ({ cls := "LazyMotionModel", name := "mark", desc := "(IIIZ)V" } : Jvm.MethodName) prog_6_method_21_code (5 : Nat) (Option.none : Option Jvm.ClassFile.FieldType)) ∈ lw_g := wk_in 759 (by decide +kernel) (by decide +kernel)
theorem hw_760 : (Jvm.Cond.methodLink "LazyMotionModel" (154 : Nat) ({ cls := "LazyMotionModel", name := "bits", desc := "(I)I" } : Jvm.MethodName)) ∈ lw_g := wk_in 760 (by decide +kernel) (by decide +kernel)
theorem hw_761 : (Jvm.Cond.static ({ cls := "LazyMotionModel", name := "bits", desc := "(I)I" } : Jvm.MethodName)) ∈ lw_g := wk_in 761 (by decide +kernel) (by decide +kernel)
theorem hw_762 : (Jvm.Cond.code ({ cls := "LazyMotionModel", name := "bits", desc := "(I)I" } : Jvm.MethodName) prog_6_method_23_code (3 : Nat) (Option.some Jvm.ClassFile.FieldType.int)) ∈ lw_g := wk_in 762 (by decide +kernel) (by decide +kernel)
theorem hw_771 : (Jvm.Cond.methodLink "LazyMotionModel" (157 : Nat) ({ cls := "LazyMotionModel", name := "isEdge", desc := "(II)Z" } : Jvm.MethodName)) ∈ lw_g := wk_in 771 (by decide +kernel) (by decide +kernel)
theorem hw_773 : (Jvm.Cond.instanceMethod ({ cls := "LazyMotionModel", name := "isEdge", desc := "(II)Z" } : Jvm.MethodName)) ∈ lw_g := wk_in 773 (by decide +kernel) (by decide +kernel)
theorem hw_774 : (Jvm.Cond.code ({ cls := "LazyMotionModel", name := "isEdge", desc := "(II)Z" } : Jvm.MethodName) prog_6_method_26_code (3 : Nat) (Option.some Jvm.ClassFile.FieldType.boolean)) ∈ lw_g := wk_in 774 (by decide +kernel) (by decide +kernel)
theorem hw_783 : (Jvm.Cond.methodLink "LazyMotionModel" (175 : Nat) ({ cls := "LazyMotionModel", name := "cross", desc := "(I)V" } : Jvm.MethodName)) ∈ lw_g := wk_in 783 (by decide +kernel) (by decide +kernel)
theorem hw_785 : (Jvm.Cond.instanceMethod ({ cls := "LazyMotionModel", name := "cross", desc := "(I)V" } : Jvm.MethodName)) ∈ lw_g := wk_in 785 (by decide +kernel) (by decide +kernel)
theorem hw_786 : (Jvm.Cond.code ({ cls := "LazyMotionModel", name := "cross", desc := "(I)V" } : Jvm.MethodName) prog_6_method_30_code (3 : Nat) (Option.none : Option Jvm.ClassFile.FieldType)) ∈ lw_g := wk_in 786 (by decide +kernel) (by decide +kernel)
theorem hw_787 : (Jvm.Cond.methodLink "LazyMotionModel" (163 : Nat) ({ cls := "LazyMotionModel", name := "worked", desc := "(I)I" } : Jvm.MethodName)) ∈ lw_g := wk_in 787 (by decide +kernel) (by decide +kernel)
theorem hw_789 : (Jvm.Cond.instanceMethod ({ cls := "LazyMotionModel", name := "worked", desc := "(I)I" } : Jvm.MethodName)) ∈ lw_g := wk_in 789 (by decide +kernel) (by decide +kernel)
theorem hw_790 : (Jvm.Cond.code ({ cls := "LazyMotionModel", name := "worked", desc := "(I)I" } : Jvm.MethodName) prog_6_method_29_code (5 : Nat) (Option.some Jvm.ClassFile.FieldType.int)) ∈ lw_g := wk_in 790 (by decide +kernel) (by decide +kernel)
theorem hw_791 : (Jvm.Cond.methodLink "LazyMotionModel" (178 : Nat) ({ cls := "LazyMotionModel", name := "pass", desc := "(IZ)V" } : Jvm.MethodName)) ∈ lw_g := wk_in 791 (by decide +kernel) (by decide +kernel)
theorem hw_793 : (Jvm.Cond.instanceMethod ({ cls := "LazyMotionModel", name := "pass", desc := "(IZ)V" } : Jvm.MethodName)) ∈ lw_g := wk_in 793 (by decide +kernel) (by decide +kernel)
theorem hw_794 : (Jvm.Cond.code ({ cls := "LazyMotionModel", name := "pass", desc := "(IZ)V" } : Jvm.MethodName) prog_6_method_32_code (9 : Nat) (Option.none : Option Jvm.ClassFile.FieldType)) ∈ lw_g := wk_in 794 (by decide +kernel) (by decide +kernel)
theorem hw_795 : (Jvm.Cond.methodLink "LazyMotionModel" (166 : Nat) ({ cls := "LazyMotionModel", name := "newly", desc := "(II)I" } : Jvm.MethodName)) ∈ lw_g := wk_in 795 (by decide +kernel) (by decide +kernel)
theorem hw_797 : (Jvm.Cond.instanceMethod ({ cls := "LazyMotionModel", name := "newly", desc := "(II)I" } : Jvm.MethodName)) ∈ lw_g := wk_in 797 (by decide +kernel) (by decide +kernel)
theorem hw_798 : (Jvm.Cond.code ({ cls := "LazyMotionModel", name := "newly", desc := "(II)I" } : Jvm.MethodName) prog_6_method_31_code (4 : Nat) (Option.some Jvm.ClassFile.FieldType.int)) ∈ lw_g := wk_in 798 (by decide +kernel) (by decide +kernel)
theorem ki_C : ∀ w ∈ u_ws kr_C kt_C kn_C, w ∈ lw_g := List.forall_mem_cons.mpr ⟨hw_178, List.forall_mem_cons.mpr ⟨hw_180, List.forall_mem_cons.mpr ⟨hw_182, List.forall_mem_cons.mpr ⟨hw_184, List.forall_mem_cons.mpr ⟨hw_186, fun _ h => absurd h List.not_mem_nil⟩⟩⟩⟩⟩
theorem ki_P : ∀ w ∈ u_ws kr_P kt_P kn_P, w ∈ lw_g := List.forall_mem_cons.mpr ⟨hw_62, List.forall_mem_cons.mpr ⟨hw_64, List.forall_mem_cons.mpr ⟨hw_66, List.forall_mem_cons.mpr ⟨hw_68, List.forall_mem_cons.mpr ⟨hw_70, List.forall_mem_cons.mpr ⟨hw_72, List.forall_mem_cons.mpr ⟨hw_74, List.forall_mem_cons.mpr ⟨hw_76, List.forall_mem_cons.mpr ⟨hw_78, List.forall_mem_cons.mpr ⟨hw_80, List.forall_mem_cons.mpr ⟨hw_82, List.forall_mem_cons.mpr ⟨hw_84, List.forall_mem_cons.mpr ⟨hw_86, fun _ h => absurd h List.not_mem_nil⟩⟩⟩⟩⟩⟩⟩⟩⟩⟩⟩⟩⟩
theorem ki_O : ∀ w ∈ u_ws kr_O kt_O kn_O, w ∈ lw_g := List.forall_mem_cons.mpr ⟨hw_109, List.forall_mem_cons.mpr ⟨hw_111, List.forall_mem_cons.mpr ⟨hw_113, List.forall_mem_cons.mpr ⟨hw_115, List.forall_mem_cons.mpr ⟨hw_117, List.forall_mem_cons.mpr ⟨hw_119, List.forall_mem_cons.mpr ⟨hw_121, List.forall_mem_cons.mpr ⟨hw_123, List.forall_mem_cons.mpr ⟨hw_125, List.forall_mem_cons.mpr ⟨hw_127, List.forall_mem_cons.mpr ⟨hw_129, fun _ h => absurd h List.not_mem_nil⟩⟩⟩⟩⟩⟩⟩⟩⟩⟩⟩
theorem ki_K : ∀ w ∈ u_ws kr_K kt_K kn_K, w ∈ lw_g := List.forall_mem_cons.mpr ⟨hw_154, List.forall_mem_cons.mpr ⟨hw_156, List.forall_mem_cons.mpr ⟨hw_158, List.forall_mem_cons.mpr ⟨hw_160, List.forall_mem_cons.mpr ⟨hw_162, List.forall_mem_cons.mpr ⟨hw_164, List.forall_mem_cons.mpr ⟨hw_166, List.forall_mem_cons.mpr ⟨hw_168, List.forall_mem_cons.mpr ⟨hw_170, fun _ h => absurd h List.not_mem_nil⟩⟩⟩⟩⟩⟩⟩⟩⟩
theorem ki_M : ∀ w ∈ u_ws kr_M kt_M kn_M, w ∈ lw_g := List.forall_mem_cons.mpr ⟨hw_612, List.forall_mem_cons.mpr ⟨hw_614, List.forall_mem_cons.mpr ⟨hw_616, List.forall_mem_cons.mpr ⟨hw_618, List.forall_mem_cons.mpr ⟨hw_620, List.forall_mem_cons.mpr ⟨hw_622, List.forall_mem_cons.mpr ⟨hw_624, List.forall_mem_cons.mpr ⟨hw_626, List.forall_mem_cons.mpr ⟨hw_628, List.forall_mem_cons.mpr ⟨hw_630, List.forall_mem_cons.mpr ⟨hw_632, List.forall_mem_cons.mpr ⟨hw_634, List.forall_mem_cons.mpr ⟨hw_636, List.forall_mem_cons.mpr ⟨hw_638, List.forall_mem_cons.mpr ⟨hw_640, List.forall_mem_cons.mpr ⟨hw_642, List.forall_mem_cons.mpr ⟨hw_644, List.forall_mem_cons.mpr ⟨hw_646, List.forall_mem_cons.mpr ⟨hw_648, List.forall_mem_cons.mpr ⟨hw_650, List.forall_mem_cons.mpr ⟨hw_652, List.forall_mem_cons.mpr ⟨hw_654, List.forall_mem_cons.mpr ⟨hw_656, List.forall_mem_cons.mpr ⟨hw_658, List.forall_mem_cons.mpr ⟨hw_660, List.forall_mem_cons.mpr ⟨hw_662, List.forall_mem_cons.mpr ⟨hw_664, List.forall_mem_cons.mpr ⟨hw_666, List.forall_mem_cons.mpr ⟨hw_668, List.forall_mem_cons.mpr ⟨hw_670, fun _ h => absurd h List.not_mem_nil⟩⟩⟩⟩⟩⟩⟩⟩⟩⟩⟩⟩⟩⟩⟩⟩⟩⟩⟩⟩⟩⟩⟩⟩⟩⟩⟩⟩⟩⟩
-- code and name of each method; decode rows
def ke_P_changeEnd : MethodName := ⟨kr_P, "changeEnd", "(IIII)I"⟩
abbrev kc_P_changeEnd : Cond := .code ke_P_changeEnd prog_4_method_4_code 5 (some .int)
def ke_P_addBlock : MethodName := ⟨kr_P, "addBlock", "()I"⟩
abbrev kc_P_addBlock : Cond := .code ke_P_addBlock prog_4_method_3_code 2 (some .int)
def ke_C_isVariable : MethodName := ⟨kr_C, "isVariable", "(I)Z"⟩
abbrev kc_C_isVariable : Cond := .code ke_C_isVariable prog_1_method_17_code 1 (some .boolean)
def ke_C_isStatement : MethodName := ⟨kr_C, "isStatement", "(IIIII)Z"⟩
abbrev kc_C_isStatement : Cond := .code ke_C_isStatement prog_1_method_15_code 5 (some .boolean)
def ke_P_takesStatement : MethodName := ⟨kr_P, "takesStatement", "()Z"⟩
abbrev kc_P_takesStatement : Cond := .code ke_P_takesStatement prog_4_method_5_code 1 (some .boolean)
def ke_P_findExpression : MethodName := ⟨kr_P, "findExpression", "(III)I"⟩
abbrev kc_P_findExpression : Cond := .code ke_P_findExpression prog_4_method_7_code 5 (some .int)
def ke_P_findOrAddExpression : MethodName := ⟨kr_P, "findOrAddExpression", "(III)I"⟩
abbrev kc_P_findOrAddExpression : Cond := .code ke_P_findOrAddExpression prog_4_method_8_code 5 (some .int)
def ke_P_hasBlock : MethodName := ⟨kr_P, "hasBlock", "(I)Z"⟩
abbrev kc_P_hasBlock : Cond := .code ke_P_hasBlock prog_4_method_2_code 2 (some .boolean)
def ke_C_mayBeBlock : MethodName := ⟨kr_C, "mayBeBlock", "(I)Z"⟩
abbrev kc_C_mayBeBlock : Cond := .code ke_C_mayBeBlock prog_1_method_18_code 1 (some .boolean)
def ke_C_isEnd : MethodName := ⟨kr_C, "isEnd", "(IIII)Z"⟩
abbrev kc_C_isEnd : Cond := .code ke_C_isEnd prog_1_method_16_code 4 (some .boolean)
def ke_P_isWhole : MethodName := ⟨kr_P, "isWhole", "()Z"⟩
abbrev kc_P_isWhole : Cond := .code ke_P_isWhole prog_4_method_9_code 2 (some .boolean)
def ke_O_reach : MethodName := ⟨kr_O, "reach", "(I)Z"⟩
abbrev kc_O_reach : Cond := .code ke_O_reach prog_3_method_9_code 2 (some .boolean)
def ke_O_findReached : MethodName := ⟨kr_O, "findReached", "()V"⟩
abbrev kc_O_findReached : Cond := .code ke_O_findReached prog_3_method_8_code 4 none
def ke_O_narrow : MethodName := ⟨kr_O, "narrow", "([JIJ)Z"⟩
abbrev kc_O_narrow : Cond := .code ke_O_narrow prog_3_method_17_code 6 (some .boolean)
def ke_O_flowThere : MethodName := ⟨kr_O, "flowThere", "()V"⟩
abbrev kc_O_flowThere : Cond := .code ke_O_flowThere prog_3_method_12_code 4 none
def ke_O_wantedByAll : MethodName := ⟨kr_O, "wantedByAll", "(II)J"⟩
abbrev kc_O_wantedByAll : Cond := .code ke_O_wantedByAll prog_3_method_14_code 3 (some .long)
def ke_O_flowWanted : MethodName := ⟨kr_O, "flowWanted", "()V"⟩
abbrev kc_O_flowWanted : Cond := .code ke_O_flowWanted prog_3_method_13_code 4 none
def ke_O_laterOn : MethodName := ⟨kr_O, "laterOn", "(II)J"⟩
abbrev kc_O_laterOn : Cond := .code ke_O_laterOn prog_3_method_7_code 5 (some .long)
def ke_O_narrowLate : MethodName := ⟨kr_O, "narrowLate", "(II)Z"⟩
abbrev kc_O_narrowLate : Cond := .code ke_O_narrowLate prog_3_method_16_code 3 (some .boolean)
def ke_O_flowLate : MethodName := ⟨kr_O, "flowLate", "()V"⟩
abbrev kc_O_flowLate : Cond := .code ke_O_flowLate prog_3_method_15_code 4 none
def ke_O_readBlock : MethodName := ⟨kr_O, "readBlock", "(I)V"⟩
abbrev kc_O_readBlock : Cond := .code ke_O_readBlock prog_3_method_10_code 6 none
def ke_O_fillSets : MethodName := ⟨kr_O, "fillSets", "(I)V"⟩
abbrev kc_O_fillSets : Cond := .code ke_O_fillSets prog_3_method_11_code 4 none
def ke_O_findSets : MethodName := ⟨kr_O, "findSets", "()V"⟩
abbrev kc_O_findSets : Cond := .code ke_O_findSets prog_3_method_2_code 2 none
def ke_G_bitCount : MethodName := ⟨kr_G, "bitCount", "(J)I"⟩
abbrev kc_G_bitCount : Cond := .code ke_G_bitCount prog_11_method_50_code 2 (some .int)
def ke_O_countMoved : MethodName := ⟨kr_O, "countMoved", "()I"⟩
abbrev kc_O_countMoved : Cond := .code ke_O_countMoved prog_3_method_3_code 4 (some .int)
def ke_O_setOf : MethodName := ⟨kr_O, "setOf", "(II)J"⟩
abbrev kc_O_setOf : Cond := .code ke_O_setOf prog_3_method_4_code 3 (some .long)
def ke_O_hasEdge : MethodName := ⟨kr_O, "hasEdge", "(II)Z"⟩
abbrev kc_O_hasEdge : Cond := .code ke_O_hasEdge prog_3_method_5_code 3 (some .boolean)
def ke_O_putOn : MethodName := ⟨kr_O, "putOn", "(II)J"⟩
abbrev kc_O_putOn : Cond := .code ke_O_putOn prog_3_method_6_code 3 (some .long)
def ke_A_fill : MethodName := ⟨kr_A, "fill", "([II)V"⟩
abbrev kc_A_fill : Cond := .code ke_A_fill prog_16_method_103_code 4 none
def ke_K_reset : MethodName := ⟨kr_K, "reset", "(III)V"⟩
abbrev kc_K_reset : Cond := .code ke_K_reset prog_2_method_2_code 4 none
def ke_P_valueOf : MethodName := ⟨kr_P, "valueOf", "(I[I)I"⟩
abbrev kc_P_valueOf : Cond := .code ke_P_valueOf prog_4_method_10_code 5 (some .int)
def ke_K_compute : MethodName := ⟨kr_K, "compute", "(I)I"⟩
abbrev kc_K_compute : Cond := .code ke_K_compute prog_2_method_8_code 2 (some .int)
def ke_K_goAlong : MethodName := ⟨kr_K, "goAlong", "(J)V"⟩
abbrev kc_K_goAlong : Cond := .code ke_K_goAlong prog_2_method_4_code 4 none
def ke_K_giveOut : MethodName := ⟨kr_K, "giveOut", "(I)V"⟩
abbrev kc_K_giveOut : Cond := .code ke_K_giveOut prog_2_method_7_code 2 none
def ke_K_goThroughSimple : MethodName := ⟨kr_K, "goThroughSimple", "(III)V"⟩
abbrev kc_K_goThroughSimple : Cond := .code ke_K_goThroughSimple prog_2_method_6_code 4 none
def ke_K_goThroughBlock : MethodName := ⟨kr_K, "goThroughBlock", "(IJ)V"⟩
abbrev kc_K_goThroughBlock : Cond := .code ke_K_goThroughBlock prog_2_method_5_code 10 none
def ke_K_goThrough : MethodName := ⟨kr_K, "goThrough", "(Z)V"⟩
abbrev kc_K_goThrough : Cond := .code ke_K_goThrough prog_2_method_3_code 5 none
def ke_C_outs : MethodName := ⟨kr_C, "outs", "()I"⟩
abbrev kc_C_outs : Cond := .code ke_C_outs prog_1_method_10_code 1 (some .int)
def ke_C_computed : MethodName := ⟨kr_C, "computed", "(I)I"⟩
abbrev kc_C_computed : Cond := .code ke_C_computed prog_1_method_13_code 2 (some .int)
def ke_M_thrown : MethodName := ⟨kr_M, "thrown", "()I"⟩
abbrev kc_M_thrown : Cond := .code ke_M_thrown prog_6_method_2_code 1 (some .int)
def ke_M_fail : MethodName := ⟨kr_M, "fail", "(I)I"⟩
abbrev kc_M_fail : Cond := .code ke_M_fail prog_6_method_3_code 2 (some .int)
def ke_M_within : MethodName := ⟨kr_M, "within", "(III)Z"⟩
abbrev kc_M_within : Cond := .code ke_M_within prog_6_method_4_code 3 (some .boolean)
def ke_M_block : MethodName := ⟨kr_M, "block", "()I"⟩
abbrev kc_M_block : Cond := .code ke_M_block prog_6_method_5_code 1 (some .int)
def ke_M_find : MethodName := ⟨kr_M, "find", "(III)I"⟩
abbrev kc_M_find : Cond := .code ke_M_find prog_6_method_6_code 6 (some .int)
def ke_M_statement : MethodName := ⟨kr_M, "statement", "(IIIII)I"⟩
abbrev kc_M_statement : Cond := .code ke_M_statement prog_6_method_7_code 9 (some .int)
def ke_M_end : MethodName := ⟨kr_M, "end", "(IIIII)I"⟩
abbrev kc_M_end : Cond := .code ke_M_end prog_6_method_8_code 7 (some .int)
def ke_M_next : MethodName := ⟨kr_M, "next", "(II)I"⟩
abbrev kc_M_next : Cond := .code ke_M_next prog_6_method_9_code 4 (some .int)
def ke_M_edge : MethodName := ⟨kr_M, "edge", "(II)Z"⟩
abbrev kc_M_edge : Cond := .code ke_M_edge prog_6_method_10_code 3 (some .boolean)
def ke_M_reach : MethodName := ⟨kr_M, "reach", "()V"⟩
abbrev kc_M_reach : Cond := .code ke_M_reach prog_6_method_11_code 5 none
def ke_M_whole : MethodName := ⟨kr_M, "whole", "()Z"⟩
abbrev kc_M_whole : Cond := .code ke_M_whole prog_6_method_12_code 3 (some .boolean)
def ke_M_gives : MethodName := ⟨kr_M, "gives", "(II)Z"⟩
abbrev kc_M_gives : Cond := .code ke_M_gives prog_6_method_13_code 3 (some .boolean)
def ke_M_look : MethodName := ⟨kr_M, "look", "(II)V"⟩
abbrev kc_M_look : Cond := .code ke_M_look prog_6_method_14_code 6 none
def ke_M_thereBefore : MethodName := ⟨kr_M, "thereBefore", "(I)Z"⟩
abbrev kc_M_thereBefore : Cond := .code ke_M_thereBefore prog_6_method_15_code 4 (some .boolean)
def ke_M_wantedBehind : MethodName := ⟨kr_M, "wantedBehind", "(I)Z"⟩
abbrev kc_M_wantedBehind : Cond := .code ke_M_wantedBehind prog_6_method_16_code 6 (some .boolean)
def ke_M_earliest : MethodName := ⟨kr_M, "earliest", "(II)Z"⟩
abbrev kc_M_earliest : Cond := .code ke_M_earliest prog_6_method_17_code 3 (some .boolean)
def ke_M_laterOn : MethodName := ⟨kr_M, "laterOn", "(II)Z"⟩
abbrev kc_M_laterOn : Cond := .code ke_M_laterOn prog_6_method_18_code 3 (some .boolean)
def ke_M_lateBefore : MethodName := ⟨kr_M, "lateBefore", "(I)Z"⟩
abbrev kc_M_lateBefore : Cond := .code ke_M_lateBefore prog_6_method_19_code 4 (some .boolean)
def ke_M_settle : MethodName := ⟨kr_M, "settle", "(I)V"⟩
abbrev kc_M_settle : Cond := .code ke_M_settle prog_6_method_20_code 6 none
def ke_M_mark : MethodName := ⟨kr_M, "mark", "(IIIZ)V"⟩
abbrev kc_M_mark : Cond := .code ke_M_mark prog_6_method_21_code 5 none
def ke_M_plans : MethodName := ⟨kr_M, "plans", "(I)V"⟩
abbrev kc_M_plans : Cond := .code ke_M_plans prog_6_method_22_code 6 none
def ke_M_bits : MethodName := ⟨kr_M, "bits", "(I)I"⟩
abbrev kc_M_bits : Cond := .code ke_M_bits prog_6_method_23_code 3 (some .int)
def ke_M_plan : MethodName := ⟨kr_M, "plan", "()I"⟩
abbrev kc_M_plan : Cond := .code ke_M_plan prog_6_method_24_code 2 (some .int)
def ke_M_set : MethodName := ⟨kr_M, "set", "(II)J"⟩
abbrev kc_M_set : Cond := .code ke_M_set prog_6_method_25_code 3 (some .long)
def ke_M_isEdge : MethodName := ⟨kr_M, "isEdge", "(II)Z"⟩
abbrev kc_M_isEdge : Cond := .code ke_M_isEdge prog_6_method_26_code 3 (some .boolean)
def ke_M_put : MethodName := ⟨kr_M, "put", "(II)J"⟩
abbrev kc_M_put : Cond := .code ke_M_put prog_6_method_27_code 3 (some .long)
def ke_M_expression : MethodName := ⟨kr_M, "expression", "(III)I"⟩
abbrev kc_M_expression : Cond := .code ke_M_expression prog_6_method_28_code 5 (some .int)
def ke_M_worked : MethodName := ⟨kr_M, "worked", "(I)I"⟩
abbrev kc_M_worked : Cond := .code ke_M_worked prog_6_method_29_code 5 (some .int)
def ke_M_cross : MethodName := ⟨kr_M, "cross", "(I)V"⟩
abbrev kc_M_cross : Cond := .code ke_M_cross prog_6_method_30_code 3 none
def ke_M_newly : MethodName := ⟨kr_M, "newly", "(II)I"⟩
abbrev kc_M_newly : Cond := .code ke_M_newly prog_6_method_31_code 4 (some .int)
def ke_M_pass : MethodName := ⟨kr_M, "pass", "(IZ)V"⟩
abbrev kc_M_pass : Cond := .code ke_M_pass prog_6_method_32_code 9 none
def ke_M_run : MethodName := ⟨kr_M, "run", "(ZIII)I"⟩
abbrev kc_M_run : Cond := .code ke_M_run prog_6_method_33_code 8 (some .int)
def ke_M_outs : MethodName := ⟨kr_M, "outs", "()I"⟩
abbrev kc_M_outs : Cond := .code ke_M_outs prog_6_method_34_code 1 (some .int)
def ke_M_out : MethodName := ⟨kr_M, "out", "(I)I"⟩
abbrev kc_M_out : Cond := .code ke_M_out prog_6_method_35_code 2 (some .int)
def ke_M_variable : MethodName := ⟨kr_M, "variable", "(I)I"⟩
abbrev kc_M_variable : Cond := .code ke_M_variable prog_6_method_36_code 2 (some .int)
def ke_M_computed : MethodName := ⟨kr_M, "computed", "(I)I"⟩
abbrev kc_M_computed : Cond := .code ke_M_computed prog_6_method_37_code 2 (some .int)
def ke_M_count : MethodName := ⟨kr_M, "count", "(I)I"⟩
abbrev kc_M_count : Cond := .code ke_M_count prog_6_method_38_code 2 (some .int)
def ke_P_addStatement : MethodName := ⟨kr_P, "addStatement", "(III)I"⟩
abbrev kc_P_addStatement : Cond := .code ke_P_addStatement prog_4_method_6_code 6 (some .int)
-- call sites
theorem gs_C_104 : GoodIn lw_g (wsV kr_C 104 kr_O ke_O_findSets (kc_O_findSets :: lw_g)) := wk_gV hw_379 hw_380 hw_381 hw_3 hw_382
theorem gs_C_107 : GoodIn lw_g (wsV kr_C 107 kr_O ke_O_countMoved (kc_O_countMoved :: lw_g)) := wk_gV hw_427 hw_428 hw_429 hw_3 hw_430
theorem gs_C_117 : GoodIn lw_g (wsV kr_C 117 kr_O ke_O_setOf (kc_O_setOf :: lw_g)) := wk_gV hw_462 hw_463 hw_464 hw_3 hw_465
theorem gs_C_121 : GoodIn lw_g (wsV kr_C 121 kr_O ke_O_hasEdge (kc_O_hasEdge :: lw_g)) := wk_gV hw_474 hw_475 hw_476 hw_3 hw_477
theorem gs_C_130 : GoodIn lw_g (wsV kr_C 130 kr_O ke_O_putOn (kc_O_putOn :: lw_g)) := wk_gV hw_495 hw_496 hw_497 hw_3 hw_498
theorem gs_C_133 : GoodIn lw_g (wsV kr_C 133 kr_P ke_P_findExpression (kc_P_findExpression :: lw_g)) := wk_gV hw_506 hw_323 hw_324 hw_2 hw_325
theorem gs_C_138 : GoodIn lw_g (wsV kr_C 138 kr_K ke_K_reset (kc_K_reset :: lw_g)) := wk_gV hw_515 hw_516 hw_517 hw_4 hw_518
theorem gs_C_142 : GoodIn lw_g (wsV kr_C 142 kr_K ke_K_goThrough (kc_K_goThrough :: lw_g)) := wk_gV hw_522 hw_523 hw_524 hw_4 hw_525
theorem gs_C_158 : GoodIn lw_g (wsS kr_C 158 ke_C_isVariable (kc_C_isVariable :: lw_g)) := wk_gS hw_294 hw_295 hw_1 hw_296
theorem gs_C_177 : GoodIn lw_g (wsS kr_C 177 ke_C_mayBeBlock (kc_C_mayBeBlock :: lw_g)) := wk_gS hw_345 hw_346 hw_1 hw_347
theorem gs_C_52 : GoodIn lw_g (wsV kr_C 52 kr_P ke_P_addBlock (kc_P_addBlock :: lw_g)) := wk_gV hw_275 hw_276 hw_277 hw_2 hw_278
theorem gs_C_56 : GoodIn lw_g (wsS kr_C 56 ke_C_isStatement (kc_C_isStatement :: lw_g)) := wk_gS hw_291 hw_292 hw_1 hw_293
theorem gs_C_65 : GoodIn lw_g (wsV kr_C 65 kr_P ke_P_takesStatement (kc_P_takesStatement :: lw_g)) := wk_gV hw_313 hw_314 hw_315 hw_2 hw_316
theorem gs_C_71 : GoodIn lw_g (wsV kr_C 71 kr_P ke_P_findOrAddExpression (kc_P_findOrAddExpression :: lw_g)) := wk_gV hw_318 hw_319 hw_320 hw_2 hw_321
theorem gs_C_80 : GoodIn lw_g (wsV kr_C 80 kr_P ke_P_hasBlock (kc_P_hasBlock :: lw_g)) := wk_gV hw_338 hw_339 hw_340 hw_2 hw_341
theorem gs_C_84 : GoodIn lw_g (wsS kr_C 84 ke_C_isEnd (kc_C_isEnd :: lw_g)) := wk_gS hw_342 hw_343 hw_1 hw_344
theorem gs_C_90 : GoodIn lw_g (wsV kr_C 90 kr_P ke_P_changeEnd (kc_P_changeEnd :: lw_g)) := wk_gV hw_349 hw_280 hw_281 hw_2 hw_282
theorem gs_C_96 : GoodIn lw_g (wsV kr_C 96 kr_P ke_P_isWhole (kc_P_isWhole :: lw_g)) := wk_gV hw_359 hw_360 hw_361 hw_2 hw_362
theorem gs_K_102 : GoodIn lw_g (wsV kr_K 102 kr_K ke_K_giveOut (kc_K_giveOut :: lw_g)) := wk_gV hw_548 hw_550 hs_15 hw_4 hw_551
theorem gs_K_106 : GoodIn lw_g (wsV kr_K 106 kr_P ke_P_valueOf (kc_P_valueOf :: lw_g)) := wk_gV hw_535 hw_536 hw_537 hw_2 hw_538
theorem gs_K_42 : GoodIn lw_g (va_wsS kr_K 42 ke_A_fill (kc_A_fill :: lw_g)) := wk_gSU hw_519 hw_520 hw_15 hw_521
theorem gs_K_48 : GoodIn lw_g (wsV kr_K 48 kr_O ke_O_putOn (kc_O_putOn :: lw_g)) := wk_gV hw_526 hw_496 hw_497 hw_3 hw_498
theorem gs_K_54 : GoodIn lw_g (wsV kr_K 54 kr_K ke_K_goAlong (kc_K_goAlong :: lw_g)) := wk_gV hw_527 hw_529 hs_11 hw_4 hw_530
theorem gs_K_62 : GoodIn lw_g (wsV kr_K 62 kr_K ke_K_goThroughBlock (kc_K_goThroughBlock :: lw_g)) := wk_gV hw_539 hw_541 hs_13 hw_4 hw_542
theorem gs_K_80 : GoodIn lw_g (wsV kr_K 80 kr_K ke_K_compute (kc_K_compute :: lw_g)) := wk_gV hw_531 hw_533 hs_12 hw_4 hw_534
theorem gs_K_98 : GoodIn lw_g (wsV kr_K 98 kr_K ke_K_goThroughSimple (kc_K_goThroughSimple :: lw_g)) := wk_gV hw_544 hw_546 hs_14 hw_4 hw_547
theorem gs_M_100 : GoodIn lw_g (wsV kr_M 100 kr_M ke_M_next (kc_M_next :: lw_g)) := wk_gV hw_708 hw_710 hs_19 hw_5 hw_711
theorem gs_M_104 : GoodIn lw_g (wsV kr_M 104 kr_M ke_M_gives (kc_M_gives :: lw_g)) := wk_gV hw_724 hw_726 hs_23 hw_5 hw_727
theorem gs_M_108 : GoodIn lw_g (wsV kr_M 108 kr_M ke_M_edge (kc_M_edge :: lw_g)) := wk_gV hw_736 hw_738 hs_26 hw_5 hw_739
theorem gs_M_111 : GoodIn lw_g (wsV kr_M 111 kr_M ke_M_wantedBehind (kc_M_wantedBehind :: lw_g)) := wk_gV hw_740 hw_742 hs_27 hw_5 hw_743
theorem gs_M_115 : GoodIn lw_g (wsV kr_M 115 kr_M ke_M_earliest (kc_M_earliest :: lw_g)) := wk_gV hw_752 hw_754 hs_30 hw_5 hw_755
theorem gs_M_118 : GoodIn lw_g (wsV kr_M 118 kr_M ke_M_laterOn (kc_M_laterOn :: lw_g)) := wk_gV hw_748 hw_750 hs_29 hw_5 hw_751
theorem gs_M_121 : GoodIn lw_g (wsV kr_M 121 kr_M ke_M_thereBefore (kc_M_thereBefore :: lw_g)) := wk_gV hw_732 hw_734 hs_25 hw_5 hw_735
theorem gs_M_124 : GoodIn lw_g (wsV kr_M 124 kr_M ke_M_lateBefore (kc_M_lateBefore :: lw_g)) := wk_gV hw_744 hw_746 hs_28 hw_5 hw_747
theorem gs_M_127 : GoodIn lw_g (wsV kr_M 127 kr_M ke_M_look (kc_M_look :: lw_g)) := wk_gV hw_720 hw_722 hs_22 hw_5 hw_723
theorem gs_M_131 : GoodIn lw_g (wsV kr_M 131 kr_M ke_M_settle (kc_M_settle :: lw_g)) := wk_gV hw_728 hw_730 hs_24 hw_5 hw_731
theorem gs_M_135 : GoodIn lw_g (wsV kr_M 135 kr_M ke_M_mark (kc_M_mark :: lw_g)) := wk_gV hw_756 hw_758 hs_31 hw_5 hw_759
theorem gs_M_142 : GoodIn lw_g (wsV kr_M 142 kr_M ke_M_whole (kc_M_whole :: lw_g)) := wk_gV hw_704 hw_706 hs_18 hw_5 hw_707
theorem gs_M_146 : GoodIn lw_g (wsV kr_M 146 kr_M ke_M_reach (kc_M_reach :: lw_g)) := wk_gV hw_712 hw_714 hs_20 hw_5 hw_715
theorem gs_M_149 : GoodIn lw_g (wsV kr_M 149 kr_M ke_M_plans (kc_M_plans :: lw_g)) := wk_gV hw_716 hw_718 hs_21 hw_5 hw_719
theorem gs_M_154 : GoodIn lw_g (wsS kr_M 154 ke_M_bits (kc_M_bits :: lw_g)) := wk_gS hw_760 hw_761 hw_5 hw_762
theorem gs_M_157 : GoodIn lw_g (wsV kr_M 157 kr_M ke_M_isEdge (kc_M_isEdge :: lw_g)) := wk_gV hw_771 hw_773 hs_32 hw_5 hw_774
theorem gs_M_163 : GoodIn lw_g (wsV kr_M 163 kr_M ke_M_worked (kc_M_worked :: lw_g)) := wk_gV hw_787 hw_789 hs_34 hw_5 hw_790
theorem gs_M_166 : GoodIn lw_g (wsV kr_M 166 kr_M ke_M_newly (kc_M_newly :: lw_g)) := wk_gV hw_795 hw_797 hs_36 hw_5 hw_798
theorem gs_M_175 : GoodIn lw_g (wsV kr_M 175 kr_M ke_M_cross (kc_M_cross :: lw_g)) := wk_gV hw_783 hw_785 hs_33 hw_5 hw_786
theorem gs_M_178 : GoodIn lw_g (wsV kr_M 178 kr_M ke_M_pass (kc_M_pass :: lw_g)) := wk_gV hw_791 hw_793 hs_35 hw_5 hw_794
theorem gs_M_81 : GoodIn lw_g (wsV kr_M 81 kr_M ke_M_fail (kc_M_fail :: lw_g)) := wk_gV hw_681 hw_683 hs_16 hw_5 hw_684
theorem gs_M_92 : GoodIn lw_g (wsS kr_M 92 ke_M_within (kc_M_within :: lw_g)) := wk_gS hw_689 hw_690 hw_5 hw_691
theorem gs_M_96 : GoodIn lw_g (wsV kr_M 96 kr_M ke_M_find (kc_M_find :: lw_g)) := wk_gV hw_692 hw_694 hs_17 hw_5 hw_695
theorem gs_O_116 : GoodIn lw_g (wsS kr_O 116 ke_O_narrow (kc_O_narrow :: lw_g)) := wk_gS hw_404 hw_405 hw_3 hw_406
theorem gs_O_120 : GoodIn lw_g (wsV kr_O 120 kr_O ke_O_wantedByAll (kc_O_wantedByAll :: lw_g)) := wk_gV hw_411 hw_413 hs_7 hw_3 hw_414
theorem gs_O_123 : GoodIn lw_g (wsV kr_O 123 kr_O ke_O_narrowLate (kc_O_narrowLate :: lw_g)) := wk_gV hw_423 hw_425 hs_10 hw_3 hw_426
theorem gs_O_47 : GoodIn lw_g (wsV kr_O 47 kr_O ke_O_findReached (kc_O_findReached :: lw_g)) := wk_gV hw_383 hw_385 hs_1 hw_3 hw_386
theorem gs_O_56 : GoodIn lw_g (wsV kr_O 56 kr_O ke_O_readBlock (kc_O_readBlock :: lw_g)) := wk_gV hw_391 hw_393 hs_3 hw_3 hw_394
theorem gs_O_60 : GoodIn lw_g (wsV kr_O 60 kr_O ke_O_fillSets (kc_O_fillSets :: lw_g)) := wk_gV hw_396 hw_398 hs_4 hw_3 hw_399
theorem gs_O_63 : GoodIn lw_g (wsV kr_O 63 kr_O ke_O_flowThere (kc_O_flowThere :: lw_g)) := wk_gV hw_400 hw_402 hs_5 hw_3 hw_403
theorem gs_O_66 : GoodIn lw_g (wsV kr_O 66 kr_O ke_O_flowWanted (kc_O_flowWanted :: lw_g)) := wk_gV hw_407 hw_409 hs_6 hw_3 hw_410
theorem gs_O_69 : GoodIn lw_g (wsV kr_O 69 kr_O ke_O_flowLate (kc_O_flowLate :: lw_g)) := wk_gV hw_415 hw_417 hs_8 hw_3 hw_418
theorem gs_O_74 : GoodIn lw_g (va_wsS kr_O 74 ke_G_bitCount (kc_G_bitCount :: lw_g)) := wk_gSU hw_431 hw_432 hw_12 hw_433
theorem gs_O_80 : GoodIn lw_g (wsV kr_O 80 kr_P ke_P_hasBlock (kc_P_hasBlock :: lw_g)) := wk_gV hw_478 hw_339 hw_340 hw_2 hw_341
theorem gs_O_91 : GoodIn lw_g (wsV kr_O 91 kr_O ke_O_laterOn (kc_O_laterOn :: lw_g)) := wk_gV hw_419 hw_421 hs_9 hw_3 hw_422
theorem gs_O_95 : GoodIn lw_g (wsV kr_O 95 kr_O ke_O_reach (kc_O_reach :: lw_g)) := wk_gV hw_387 hw_389 hs_2 hw_3 hw_390
theorem gs_P_53 : GoodIn lw_g (wsV kr_P 53 kr_P ke_P_changeEnd (kc_P_changeEnd :: lw_g)) := wk_gV hw_279 hw_280 hw_281 hw_2 hw_282
theorem gs_P_57 : GoodIn lw_g (wsV kr_P 57 kr_P ke_P_findExpression (kc_P_findExpression :: lw_g)) := wk_gV hw_322 hw_323 hw_324 hw_2 hw_325
end
section
def pj_P_changeEnd_40 (K : Int32 → Sta → Prop) (y0 : Int32) (z : Sta) : Prop :=
  K y0 z
def wp_P_changeEnd (x1 : Int32) (x2 : Int32) (x3 : Int32) (x4 : Int32) (z : Sta) (K : Int32 → Sta → Prop) : Prop :=
  vp_in x1 16 ∧ ∀ z1 : Sta, z1 = zA z 4 (upd (z.2.1 4) x1.toNatClampNeg x2) → vp_in x1 16 ∧ ∀ z2 : Sta, z2 = zA z1 5 (upd (z1.2.1 5) x1.toNatClampNeg x3) → vp_in x1 16 ∧ ∀ z3 : Sta, z3 = zA z2 6 (upd (z2.2.1 6) x1.toNatClampNeg x4) → ((¬ x3 = (-1 : Int32) → ((¬ x3 = x4 → pj_P_changeEnd_40 K 2 z3) ∧ (x3 = x4 → pj_P_changeEnd_40 K 1 z3))) ∧ (x3 = (-1 : Int32) → K 0 z3))
def wp_P_addBlock (z : Sta) (K : Int32 → Sta → Prop) : Prop :=
  ∀ v1 : Int32, v1 = z.1 2 → ∀ v2 : Int32, v2 = z.1 2 → ∀ v3 : Int32, v3 = v2 + 1 → ∀ z4 : Sta, z4 = zI z 2 v3 → wp_P_changeEnd v1 0 (-1) (-1) z4 (fun rz5 z5 => K v1 z5)
def pj_C_isVariable_15 (K : Int32 → Sta → Prop) (y0 : Int32) (z : Sta) : Prop :=
  (y0 = 0 ∨ y0 = 1) ∧ K y0 z
def pj_C_isVariable_14 (K : Int32 → Sta → Prop) (z : Sta) : Prop :=
  pj_C_isVariable_15 K 0 z
def wp_C_isVariable (x0 : Int32) (z : Sta) (K : Int32 → Sta → Prop) : Prop :=
  ((x0 < 0 → pj_C_isVariable_14 K z) ∧ (¬ x0 < 0 → (((6 : Int32) ≤ x0 → pj_C_isVariable_14 K z) ∧ (¬ (6 : Int32) ≤ x0 → pj_C_isVariable_15 K 1 z))))
def pj_C_isStatement_94 (K : Int32 → Sta → Prop) (y0 : Int32) (z : Sta) : Prop :=
  (y0 = 0 ∨ y0 = 1) ∧ K y0 z
def pj_C_isStatement_93 (K : Int32 → Sta → Prop) (z : Sta) : Prop :=
  pj_C_isStatement_94 K 0 z
def pj_C_isStatement_64 (K : Int32 → Sta → Prop) (y0 : Int32) (z : Sta) : Prop :=
  (y0 = 0 ∨ y0 = 1) ∧ K y0 z
def pj_C_isStatement_63 (K : Int32 → Sta → Prop) (z : Sta) : Prop :=
  pj_C_isStatement_64 K 0 z
def wp_C_isStatement (x0 : Int32) (x1 : Int32) (x2 : Int32) (x3 : Int32) (x4 : Int32) (z : Sta) (K : Int32 → Sta → Prop) : Prop :=
  wp_C_isVariable x1 z (fun rz1 z1 => ((¬ rz1 = 0 → ((x0 = 0 → wp_C_isVariable x2 z1 (fun rz2 z2 => (rz2 = 0 ∨ rz2 = 1) ∧ K rz2 z2)) ∧ (x0 = 1 → ((x2 < (-32768 : Int32) → pj_C_isStatement_63 K z1) ∧ (¬ x2 < (-32768 : Int32) → (((32767 : Int32) < x2 → pj_C_isStatement_63 K z1) ∧ (¬ (32767 : Int32) < x2 → pj_C_isStatement_64 K 1 z1))))) ∧ (x0 = 2 → wp_C_isVariable x2 z1 (fun rz3 z3 => ((rz3 = 0 → pj_C_isStatement_93 K z3) ∧ (¬ rz3 = 0 → ((x3 < 0 → pj_C_isStatement_93 K z3) ∧ (¬ x3 < 0 → (((5 : Int32) ≤ x3 → pj_C_isStatement_93 K z3) ∧ (¬ (5 : Int32) ≤ x3 → wp_C_isVariable x4 z3 (fun rz4 z4 => ((rz4 = 0 → pj_C_isStatement_93 K z4) ∧ (¬ rz4 = 0 → pj_C_isStatement_94 K 1 z4))))))))))) ∧ (x0 = 3 → ((1 : Int32) = 0 ∨ (1 : Int32) = 1) ∧ K 1 z1) ∧ (¬ x0 = 0 ∧ ¬ x0 = 1 ∧ ¬ x0 = 2 ∧ ¬ x0 = 3 → ((0 : Int32) = 0 ∨ (0 : Int32) = 1) ∧ K 0 z1))) ∧ (rz1 = 0 → ((0 : Int32) = 0 ∨ (0 : Int32) = 1) ∧ K 0 z1)))
def pj_P_takesStatement_27 (K : Int32 → Sta → Prop) (y0 : Int32) (z : Sta) : Prop :=
  (y0 = 0 ∨ y0 = 1) ∧ K y0 z
def pj_P_takesStatement_26 (K : Int32 → Sta → Prop) (z : Sta) : Prop :=
  pj_P_takesStatement_27 K 0 z
def wp_P_takesStatement (z : Sta) (K : Int32 → Sta → Prop) : Prop :=
  ∀ v1 : Int32, v1 = z.1 2 → ((v1 ≤ 0 → pj_P_takesStatement_26 K z) ∧ (¬ v1 ≤ 0 → ∀ v2 : Int32, v2 = z.1 2 → ∀ v3 : Int32, v3 = v2 - 1 → vp_in v3 16 ∧ ∀ v4 : Int32, v4 = z.2.1 0 v3.toNatClampNeg → (((5 : Int32) ≤ v4 → pj_P_takesStatement_26 K z) ∧ (¬ (5 : Int32) ≤ v4 → pj_P_takesStatement_27 K 1 z))))
def pj_P_findExpression_48 (K : Int32 → Sta → Prop) (R3 : Int32 → Int32 → Int32 → Int32 → Sta → Prop) (x1 : Int32) (x2 : Int32) (x3 : Int32) (x4 : Int32) (z : Sta) : Prop :=
  ∀ v5 : Int32, v5 = x4 + 1 → R3 x1 x2 x3 v5 z
def lp_P_findExpression_3 (K : Int32 → Sta → Prop) : Nat → Int32 → Int32 → Int32 → Int32 → Sta → Prop
  | 0, _, _, _, _, _ => False
  | n + 1, x1, x2, x3, x4, z => ∀ v1 : Int32, v1 = z.1 3 → ((v1 ≤ x4 → K (-1) z) ∧ (¬ v1 ≤ x4 → vp_in x4 24 ∧ ∀ v2 : Int32, v2 = z.2.1 7 x4.toNatClampNeg → ((¬ v2 = x1 → pj_P_findExpression_48 K (fun x1 x2 x3 x4 z => lp_P_findExpression_3 K n x1 x2 x3 x4 z) x1 x2 x3 x4 z) ∧ (v2 = x1 → vp_in x4 24 ∧ ∀ v3 : Int32, v3 = z.2.1 8 x4.toNatClampNeg → ((¬ v3 = x2 → pj_P_findExpression_48 K (fun x1 x2 x3 x4 z => lp_P_findExpression_3 K n x1 x2 x3 x4 z) x1 x2 x3 x4 z) ∧ (v3 = x2 → vp_in x4 24 ∧ ∀ v4 : Int32, v4 = z.2.1 9 x4.toNatClampNeg → ((¬ v4 = x3 → pj_P_findExpression_48 K (fun x1 x2 x3 x4 z => lp_P_findExpression_3 K n x1 x2 x3 x4 z) x1 x2 x3 x4 z) ∧ (v4 = x3 → K x4 z))))))))
def wp_P_findExpression (x1 : Int32) (x2 : Int32) (x3 : Int32) (z : Sta) (K : Int32 → Sta → Prop) : Prop :=
  ∃ n3 : Nat, lp_P_findExpression_3 K n3 x1 x2 x3 0 z
def pj_P_findOrAddExpression_24 (K : Int32 → Sta → Prop) (x4 : Int32) (z : Sta) : Prop :=
  K x4 z
def wp_P_findOrAddExpression (x1 : Int32) (x2 : Int32) (x3 : Int32) (z : Sta) (K : Int32 → Sta → Prop) : Prop :=
  wp_P_findExpression x1 x2 x3 z (fun rz1 z1 => ((¬ rz1 = (-1 : Int32) → pj_P_findOrAddExpression_24 K rz1 z1) ∧ (rz1 = (-1 : Int32) → ∀ v2 : Int32, v2 = z1.1 3 → ((v2 < (24 : Int32) → ∀ v3 : Int32, v3 = z1.1 3 → ∀ v4 : Int32, v4 = z1.1 3 → ∀ v5 : Int32, v5 = v4 + 1 → ∀ z6 : Sta, z6 = zI z1 3 v5 → vp_in v3 24 ∧ ∀ z7 : Sta, z7 = zA z6 7 (upd (z6.2.1 7) v3.toNatClampNeg x1) → vp_in v3 24 ∧ ∀ z8 : Sta, z8 = zA z7 8 (upd (z7.2.1 8) v3.toNatClampNeg x2) → vp_in v3 24 ∧ ∀ z9 : Sta, z9 = zA z8 9 (upd (z8.2.1 9) v3.toNatClampNeg x3) → vp_in x1 6 ∧ ∀ v10 : Int64, v10 = z9.2.2 0 x1.toNatClampNeg → ∀ v11 : Int64, v11 = (1 : Int64) <<< (v3.toInt64 &&& 63) → ∀ v12 : Int64, v12 = v10 ||| v11 → vp_in x1 6 ∧ ∀ z13 : Sta, z13 = zL z9 0 (vp_updL (z9.2.2 0) x1.toNatClampNeg v12) → vp_in x3 6 ∧ ∀ v14 : Int64, v14 = z13.2.2 0 x3.toNatClampNeg → ∀ v15 : Int64, v15 = (1 : Int64) <<< (v3.toInt64 &&& 63) → ∀ v16 : Int64, v16 = v14 ||| v15 → vp_in x3 6 ∧ ∀ z17 : Sta, z17 = zL z13 0 (vp_updL (z13.2.2 0) x3.toNatClampNeg v16) → K v3 z17) ∧ (¬ v2 < (24 : Int32) → pj_P_findOrAddExpression_24 K rz1 z1)))))
def pj_P_hasBlock_17 (K : Int32 → Sta → Prop) (y0 : Int32) (z : Sta) : Prop :=
  (y0 = 0 ∨ y0 = 1) ∧ K y0 z
def pj_P_hasBlock_16 (K : Int32 → Sta → Prop) (z : Sta) : Prop :=
  pj_P_hasBlock_17 K 0 z
def wp_P_hasBlock (x1 : Int32) (z : Sta) (K : Int32 → Sta → Prop) : Prop :=
  ((x1 < 0 → pj_P_hasBlock_16 K z) ∧ (¬ x1 < 0 → ∀ v1 : Int32, v1 = z.1 2 → ((v1 ≤ x1 → pj_P_hasBlock_16 K z) ∧ (¬ v1 ≤ x1 → pj_P_hasBlock_17 K 1 z))))
def pj_C_mayBeBlock_15 (K : Int32 → Sta → Prop) (y0 : Int32) (z : Sta) : Prop :=
  (y0 = 0 ∨ y0 = 1) ∧ K y0 z
def pj_C_mayBeBlock_14 (K : Int32 → Sta → Prop) (z : Sta) : Prop :=
  pj_C_mayBeBlock_15 K 0 z
def wp_C_mayBeBlock (x0 : Int32) (z : Sta) (K : Int32 → Sta → Prop) : Prop :=
  ((x0 < 0 → pj_C_mayBeBlock_14 K z) ∧ (¬ x0 < 0 → (((16 : Int32) ≤ x0 → pj_C_mayBeBlock_14 K z) ∧ (¬ (16 : Int32) ≤ x0 → pj_C_mayBeBlock_15 K 1 z))))
def pj_C_isEnd_61 (K : Int32 → Sta → Prop) (y0 : Int32) (z : Sta) : Prop :=
  (y0 = 0 ∨ y0 = 1) ∧ K y0 z
def pj_C_isEnd_60 (K : Int32 → Sta → Prop) (z : Sta) : Prop :=
  pj_C_isEnd_61 K 0 z
def wp_C_isEnd (x0 : Int32) (x1 : Int32) (x2 : Int32) (x3 : Int32) (z : Sta) (K : Int32 → Sta → Prop) : Prop :=
  ((x0 = 0 → ((1 : Int32) = 0 ∨ (1 : Int32) = 1) ∧ K 1 z) ∧ (x0 = 1 → wp_C_mayBeBlock x2 z (fun rz1 z1 => (rz1 = 0 ∨ rz1 = 1) ∧ K rz1 z1)) ∧ (x0 = 2 → wp_C_isVariable x1 z (fun rz2 z2 => ((rz2 = 0 → pj_C_isEnd_60 K z2) ∧ (¬ rz2 = 0 → wp_C_mayBeBlock x2 z2 (fun rz3 z3 => ((rz3 = 0 → pj_C_isEnd_60 K z3) ∧ (¬ rz3 = 0 → wp_C_mayBeBlock x3 z3 (fun rz4 z4 => ((rz4 = 0 → pj_C_isEnd_60 K z4) ∧ (¬ rz4 = 0 → pj_C_isEnd_61 K 1 z4)))))))))) ∧ (¬ x0 = 0 ∧ ¬ x0 = 1 ∧ ¬ x0 = 2 → ((0 : Int32) = 0 ∨ (0 : Int32) = 1) ∧ K 0 z))
def pj_P_isWhole_36 (K : Int32 → Sta → Prop) (z : Sta) : Prop :=
  ((0 : Int32) = 0 ∨ (0 : Int32) = 1) ∧ K 0 z
def lp_P_isWhole_2 (K : Int32 → Sta → Prop) : Nat → Int32 → Sta → Prop
  | 0, _, _ => False
  | n + 1, x1, z => ∀ v1 : Int32, v1 = z.1 2 → ((v1 ≤ x1 → ((1 : Int32) = 0 ∨ (1 : Int32) = 1) ∧ K 1 z) ∧ (¬ v1 ≤ x1 → vp_in x1 16 ∧ ∀ v2 : Int32, v2 = z.2.1 5 x1.toNatClampNeg → ∀ v3 : Int32, v3 = z.1 2 → ((v3 ≤ v2 → pj_P_isWhole_36 K z) ∧ (¬ v3 ≤ v2 → vp_in x1 16 ∧ ∀ v4 : Int32, v4 = z.2.1 6 x1.toNatClampNeg → ∀ v5 : Int32, v5 = z.1 2 → ((v4 < v5 → ∀ v6 : Int32, v6 = x1 + 1 → lp_P_isWhole_2 K n v6 z) ∧ (¬ v4 < v5 → pj_P_isWhole_36 K z))))))
def wp_P_isWhole (z : Sta) (K : Int32 → Sta → Prop) : Prop :=
  ∃ n2 : Nat, lp_P_isWhole_2 K n2 0 z
def pj_O_reach_14 (K : Int32 → Sta → Prop) (z : Sta) : Prop :=
  ((0 : Int32) = 0 ∨ (0 : Int32) = 1) ∧ K 0 z
def wp_O_reach (x1 : Int32) (z : Sta) (K : Int32 → Sta → Prop) : Prop :=
  ((x1 = (-1 : Int32) → pj_O_reach_14 K z) ∧ (¬ x1 = (-1 : Int32) → vp_in x1 16 ∧ ∀ v1 : Int32, v1 = z.2.1 10 x1.toNatClampNeg → ((v1 = 0 → vp_in x1 16 ∧ ∀ z2 : Sta, z2 = zA z 10 (upd (z.2.1 10) x1.toNatClampNeg (vp_nar .boolean (1 : Int32))) → ((1 : Int32) = 0 ∨ (1 : Int32) = 1) ∧ K 1 z2) ∧ (¬ v1 = 0 → pj_O_reach_14 K z))))
def pj_O_findReached_111 (K : Sta → Prop) (z : Sta) : Prop :=
  K z
def pj_O_findReached_99 (K : Sta → Prop) (R47 : Int32 → Int32 → Int32 → Sta → Prop) (x1 : Int32) (x2 : Int32) (x3 : Int32) (z : Sta) : Prop :=
  ∀ v12 : Int32, v12 = x3 + 1 → R47 x1 x2 v12 z
def lp_O_findReached_47 (K : Sta → Prop) (R33 : Int32 → Int32 → Sta → Prop) : Nat → Int32 → Int32 → Int32 → Sta → Prop
  | 0, _, _, _, _ => False
  | n + 1, x1, x2, x3, z => ∀ v3 : Int32, v3 = z.1 2 → ((v3 ≤ x3 → ∀ v4 : Int32, v4 = x2 + 1 → R33 x1 v4 z) ∧ (¬ v3 ≤ x3 → vp_in x3 16 ∧ ∀ v5 : Int32, v5 = z.2.1 10 x3.toNatClampNeg → ((v5 = 0 → pj_O_findReached_99 K (fun x1 x2 x3 z => lp_O_findReached_47 K R33 n x1 x2 x3 z) x1 x2 x3 z) ∧ (¬ v5 = 0 → vp_in x3 16 ∧ ∀ v6 : Int32, v6 = z.2.1 5 x3.toNatClampNeg → wp_O_reach v6 z (fun rz7 z7 => ∀ v8 : Int32, v8 = x1 ||| rz7 → vp_in x3 16 ∧ ∀ v9 : Int32, v9 = z7.2.1 6 x3.toNatClampNeg → wp_O_reach v9 z7 (fun rz10 z10 => ∀ v11 : Int32, v11 = v8 ||| rz10 → pj_O_findReached_99 K (fun x1 x2 x3 z => lp_O_findReached_47 K R33 n x1 x2 x3 z) v11 x2 x3 z10))))))
def lp_O_findReached_33 (K : Sta → Prop) : Nat → Int32 → Int32 → Sta → Prop
  | 0, _, _, _ => False
  | n + 1, x1, x2, z => ((x1 = 0 → pj_O_findReached_111 K z) ∧ (¬ x1 = 0 → (((16 : Int32) ≤ x2 → pj_O_findReached_111 K z) ∧ (¬ (16 : Int32) ≤ x2 → ∃ n47 : Nat, lp_O_findReached_47 K (fun x1 x2 z => lp_O_findReached_33 K n x1 x2 z) n47 0 x2 0 z))))
def pj_O_findReached_22 (K : Sta → Prop) (R2 : Int32 → Sta → Prop) (x1 : Int32) (y0 : Int32) (y1 : Int32) (z : Sta) : Prop :=
  vp_in y1 16 ∧ ∀ z1 : Sta, z1 = zA z 10 (upd (z.2.1 10) y1.toNatClampNeg (vp_nar .boolean y0)) → ∀ v2 : Int32, v2 = x1 + 1 → R2 v2 z1
def lp_O_findReached_2 (K : Sta → Prop) : Nat → Int32 → Sta → Prop
  | 0, _, _ => False
  | n + 1, x1, z => (((16 : Int32) ≤ x1 → ∃ n33 : Nat, lp_O_findReached_33 K n33 1 0 z) ∧ (¬ (16 : Int32) ≤ x1 → ((¬ x1 = 0 → pj_O_findReached_22 K (fun x1 z => lp_O_findReached_2 K n x1 z) x1 0 x1 z) ∧ (x1 = 0 → pj_O_findReached_22 K (fun x1 z => lp_O_findReached_2 K n x1 z) x1 1 x1 z))))
def wp_O_findReached (z : Sta) (K : Sta → Prop) : Prop :=
  ∃ n2 : Nat, lp_O_findReached_2 K n2 0 z
def pj_O_narrow_20_33 (K : Int32 → Sta → Prop) (y0 : Int32) (z : Sta) : Prop :=
  (y0 = 0 ∨ y0 = 1) ∧ K y0 z
def wp_O_narrow_20 (x1 : Int32) (x2 : Int64) (z : Sta) (K : Int32 → Sta → Prop) : Prop :=
  ((¬ x1 = (-1 : Int32) → vp_in x1 16 ∧ ∀ v1 : Int64, v1 = z.2.2 4 x1.toNatClampNeg → ∀ v2 : Int64, v2 = v1 &&& x2 → vp_in x1 16 ∧ ∀ z3 : Sta, z3 = zL z 4 (vp_updL (z.2.2 4) x1.toNatClampNeg v2) → vp_in x1 16 ∧ ∀ v4 : Int64, v4 = z3.2.2 4 x1.toNatClampNeg → ∀ v5 : Int32, v5 = lg_cmp v4 v1 → ((v5 = 0 → pj_O_narrow_20_33 K 0 z3) ∧ (¬ v5 = 0 → pj_O_narrow_20_33 K 1 z3))) ∧ (x1 = (-1 : Int32) → ((0 : Int32) = 0 ∨ (0 : Int32) = 1) ∧ K 0 z))
def pj_O_flowThere_138 (K : Sta → Prop) (z : Sta) : Prop :=
  K z
def pj_O_flowThere_126 (K : Sta → Prop) (R26 : Int32 → Int32 → Int32 → Sta → Prop) (x1 : Int32) (x2 : Int32) (x3 : Int32) (z : Sta) : Prop :=
  ∀ v20 : Int32, v20 = x3 + 1 → R26 x1 x2 v20 z
def lp_O_flowThere_26 (K : Sta → Prop) (R11 : Int32 → Int32 → Sta → Prop) : Nat → Int32 → Int32 → Int32 → Sta → Prop
  | 0, _, _, _, _ => False
  | n + 1, x1, x2, x3, z => ∀ v2 : Int32, v2 = z.1 2 → ((v2 ≤ x3 → ∀ v3 : Int32, v3 = x2 + 1 → R11 x1 v3 z) ∧ (¬ v2 ≤ x3 → vp_in x3 16 ∧ ∀ v4 : Int32, v4 = z.2.1 10 x3.toNatClampNeg → ((v4 = 0 → pj_O_flowThere_126 K (fun x1 x2 x3 z => lp_O_flowThere_26 K R11 n x1 x2 x3 z) x1 x2 x3 z) ∧ (¬ v4 = 0 → vp_in x3 16 ∧ ∀ v5 : Int64, v5 = z.2.2 3 x3.toNatClampNeg → vp_in x3 16 ∧ ∀ v6 : Int64, v6 = z.2.2 4 x3.toNatClampNeg → vp_in x3 16 ∧ ∀ v7 : Int64, v7 = z.2.2 1 x3.toNatClampNeg → ∀ v8 : Int64, v8 = v7 ^^^ (-1 : Int64) → ∀ v9 : Int64, v9 = v6 &&& v8 → ∀ v10 : Int64, v10 = v5 ||| v9 → vp_in x3 16 ∧ ∀ z11 : Sta, z11 = zL z 5 (vp_updL (z.2.2 5) x3.toNatClampNeg v10) → vp_in x3 16 ∧ ∀ v12 : Int32, v12 = z11.2.1 5 x3.toNatClampNeg → vp_in x3 16 ∧ ∀ v13 : Int64, v13 = z11.2.2 5 x3.toNatClampNeg → wp_O_narrow_20 v12 v13 z11 (fun rz14 z14 => ∀ v15 : Int32, v15 = x1 ||| rz14 → vp_in x3 16 ∧ ∀ v16 : Int32, v16 = z14.2.1 6 x3.toNatClampNeg → vp_in x3 16 ∧ ∀ v17 : Int64, v17 = z14.2.2 5 x3.toNatClampNeg → wp_O_narrow_20 v16 v17 z14 (fun rz18 z18 => ∀ v19 : Int32, v19 = v15 ||| rz18 → pj_O_flowThere_126 K (fun x1 x2 x3 z => lp_O_flowThere_26 K R11 n x1 x2 x3 z) v19 x2 x3 z18))))))
def lp_O_flowThere_11 (K : Sta → Prop) : Nat → Int32 → Int32 → Sta → Prop
  | 0, _, _, _ => False
  | n + 1, x1, x2, z => ((x1 = 0 → pj_O_flowThere_138 K z) ∧ (¬ x1 = 0 → (((385 : Int32) ≤ x2 → pj_O_flowThere_138 K z) ∧ (¬ (385 : Int32) ≤ x2 → ∃ n26 : Nat, lp_O_flowThere_26 K (fun x1 x2 z => lp_O_flowThere_11 K n x1 x2 z) n26 0 x2 0 z))))
def wp_O_flowThere (z : Sta) (K : Sta → Prop) : Prop :=
  vp_in (0 : Int32) 16 ∧ ∀ z1 : Sta, z1 = zL z 4 (vp_updL (z.2.2 4) (0 : Int32).toNatClampNeg (0 : Int64)) → ∃ n11 : Nat, lp_O_flowThere_11 K n11 1 0 z1
def pj_O_wantedByAll_10 (K : Int64 → Sta → Prop) (z : Sta) : Prop :=
  K 0 z
def wp_O_wantedByAll (x1 : Int32) (x2 : Int32) (z : Sta) (K : Int64 → Sta → Prop) : Prop :=
  ((x1 = (-1 : Int32) → pj_O_wantedByAll_10 K z) ∧ (¬ x1 = (-1 : Int32) → ((¬ x2 = (-1 : Int32) → vp_in x1 16 ∧ ∀ v1 : Int64, v1 = z.2.2 6 x1.toNatClampNeg → vp_in x2 16 ∧ ∀ v2 : Int64, v2 = z.2.2 6 x2.toNatClampNeg → ∀ v3 : Int64, v3 = v1 &&& v2 → K v3 z) ∧ (x2 = (-1 : Int32) → pj_O_wantedByAll_10 K z))))
def pj_O_narrow_22_33 (K : Int32 → Sta → Prop) (y0 : Int32) (z : Sta) : Prop :=
  (y0 = 0 ∨ y0 = 1) ∧ K y0 z
def wp_O_narrow_22 (x1 : Int32) (x2 : Int64) (z : Sta) (K : Int32 → Sta → Prop) : Prop :=
  ((¬ x1 = (-1 : Int32) → vp_in x1 16 ∧ ∀ v1 : Int64, v1 = z.2.2 6 x1.toNatClampNeg → ∀ v2 : Int64, v2 = v1 &&& x2 → vp_in x1 16 ∧ ∀ z3 : Sta, z3 = zL z 6 (vp_updL (z.2.2 6) x1.toNatClampNeg v2) → vp_in x1 16 ∧ ∀ v4 : Int64, v4 = z3.2.2 6 x1.toNatClampNeg → ∀ v5 : Int32, v5 = lg_cmp v4 v1 → ((v5 = 0 → pj_O_narrow_22_33 K 0 z3) ∧ (¬ v5 = 0 → pj_O_narrow_22_33 K 1 z3))) ∧ (x1 = (-1 : Int32) → ((0 : Int32) = 0 ∨ (0 : Int32) = 1) ∧ K 0 z))
def pj_O_flowWanted_115 (K : Sta → Prop) (z : Sta) : Prop :=
  K z
def pj_O_flowWanted_103 (K : Sta → Prop) (R27 : Int32 → Int32 → Int32 → Sta → Prop) (x1 : Int32) (x2 : Int32) (x3 : Int32) (z : Sta) : Prop :=
  ∀ v17 : Int32, v17 = x3 + (-1) → R27 x1 x2 v17 z
def lp_O_flowWanted_27 (K : Sta → Prop) (R4 : Int32 → Int32 → Sta → Prop) : Nat → Int32 → Int32 → Int32 → Sta → Prop
  | 0, _, _, _, _ => False
  | n + 1, x1, x2, x3, z => ((x3 < 0 → ∀ v3 : Int32, v3 = x2 + 1 → R4 x1 v3 z) ∧ (¬ x3 < 0 → vp_in x3 16 ∧ ∀ v4 : Int32, v4 = z.2.1 10 x3.toNatClampNeg → ((v4 = 0 → pj_O_flowWanted_103 K (fun x1 x2 x3 z => lp_O_flowWanted_27 K R4 n x1 x2 x3 z) x1 x2 x3 z) ∧ (¬ v4 = 0 → vp_in x3 16 ∧ ∀ v5 : Int32, v5 = z.2.1 5 x3.toNatClampNeg → vp_in x3 16 ∧ ∀ v6 : Int32, v6 = z.2.1 6 x3.toNatClampNeg → wp_O_wantedByAll v5 v6 z (fun rz7 z7 => vp_in x3 16 ∧ ∀ z8 : Sta, z8 = zL z7 7 (vp_updL (z7.2.2 7) x3.toNatClampNeg rz7) → vp_in x3 16 ∧ ∀ v9 : Int64, v9 = z8.2.2 2 x3.toNatClampNeg → vp_in x3 16 ∧ ∀ v10 : Int64, v10 = z8.2.2 7 x3.toNatClampNeg → vp_in x3 16 ∧ ∀ v11 : Int64, v11 = z8.2.2 1 x3.toNatClampNeg → ∀ v12 : Int64, v12 = v11 ^^^ (-1 : Int64) → ∀ v13 : Int64, v13 = v10 &&& v12 → ∀ v14 : Int64, v14 = v9 ||| v13 → wp_O_narrow_22 x3 v14 z8 (fun rz15 z15 => ∀ v16 : Int32, v16 = x1 ||| rz15 → pj_O_flowWanted_103 K (fun x1 x2 x3 z => lp_O_flowWanted_27 K R4 n x1 x2 x3 z) v16 x2 x3 z15))))))
def lp_O_flowWanted_4 (K : Sta → Prop) : Nat → Int32 → Int32 → Sta → Prop
  | 0, _, _, _ => False
  | n + 1, x1, x2, z => ((x1 = 0 → pj_O_flowWanted_115 K z) ∧ (¬ x1 = 0 → (((385 : Int32) ≤ x2 → pj_O_flowWanted_115 K z) ∧ (¬ (385 : Int32) ≤ x2 → ∀ v1 : Int32, v1 = z.1 2 → ∀ v2 : Int32, v2 = v1 - 1 → ∃ n27 : Nat, lp_O_flowWanted_27 K (fun x1 x2 z => lp_O_flowWanted_4 K n x1 x2 z) n27 0 x2 v2 z))))
def wp_O_flowWanted (z : Sta) (K : Sta → Prop) : Prop :=
  ∃ n4 : Nat, lp_O_flowWanted_4 K n4 1 0 z
def wp_O_laterOn (x1 : Int32) (x2 : Int32) (z : Sta) (K : Int64 → Sta → Prop) : Prop :=
  ((¬ x1 = (-1 : Int32) → vp_in x2 16 ∧ ∀ v1 : Int64, v1 = z.2.2 6 x2.toNatClampNeg → vp_in x1 16 ∧ ∀ v2 : Int64, v2 = z.2.2 5 x1.toNatClampNeg → ∀ v3 : Int64, v3 = v2 ^^^ (-1 : Int64) → ∀ v4 : Int64, v4 = v1 &&& v3 → vp_in x1 16 ∧ ∀ v5 : Int64, v5 = z.2.2 1 x1.toNatClampNeg → vp_in x1 16 ∧ ∀ v6 : Int64, v6 = z.2.2 7 x1.toNatClampNeg → ∀ v7 : Int64, v7 = v6 ^^^ (-1 : Int64) → ∀ v8 : Int64, v8 = v5 ||| v7 → ∀ v9 : Int64, v9 = v4 &&& v8 → vp_in x1 16 ∧ ∀ v10 : Int64, v10 = z.2.2 8 x1.toNatClampNeg → vp_in x1 16 ∧ ∀ v11 : Int64, v11 = z.2.2 2 x1.toNatClampNeg → ∀ v12 : Int64, v12 = v11 ^^^ (-1 : Int64) → ∀ v13 : Int64, v13 = v10 &&& v12 → ∀ v14 : Int64, v14 = v9 ||| v13 → K v14 z) ∧ (x1 = (-1 : Int32) → vp_in x2 16 ∧ ∀ v15 : Int64, v15 = z.2.2 6 x2.toNatClampNeg → K v15 z))
def pj_O_narrow_24_33 (K : Int32 → Sta → Prop) (y0 : Int32) (z : Sta) : Prop :=
  (y0 = 0 ∨ y0 = 1) ∧ K y0 z
def wp_O_narrow_24 (x1 : Int32) (x2 : Int64) (z : Sta) (K : Int32 → Sta → Prop) : Prop :=
  ((¬ x1 = (-1 : Int32) → vp_in x1 16 ∧ ∀ v1 : Int64, v1 = z.2.2 8 x1.toNatClampNeg → ∀ v2 : Int64, v2 = v1 &&& x2 → vp_in x1 16 ∧ ∀ z3 : Sta, z3 = zL z 8 (vp_updL (z.2.2 8) x1.toNatClampNeg v2) → vp_in x1 16 ∧ ∀ v4 : Int64, v4 = z3.2.2 8 x1.toNatClampNeg → ∀ v5 : Int32, v5 = lg_cmp v4 v1 → ((v5 = 0 → pj_O_narrow_24_33 K 0 z3) ∧ (¬ v5 = 0 → pj_O_narrow_24_33 K 1 z3))) ∧ (x1 = (-1 : Int32) → ((0 : Int32) = 0 ∨ (0 : Int32) = 1) ∧ K 0 z))
def pj_O_narrowLate_27 (K : Int32 → Sta → Prop) (y0 : Int32) (z : Sta) : Prop :=
  (y0 = 0 ∨ y0 = 1) ∧ K y0 z
def pj_O_narrowLate_26 (K : Int32 → Sta → Prop) (z : Sta) : Prop :=
  pj_O_narrowLate_27 K 0 z
def wp_O_narrowLate (x1 : Int32) (x2 : Int32) (z : Sta) (K : Int32 → Sta → Prop) : Prop :=
  ((x2 = (-1 : Int32) → pj_O_narrowLate_26 K z) ∧ (¬ x2 = (-1 : Int32) → wp_O_laterOn x1 x2 z (fun rz1 z1 => wp_O_narrow_24 x2 rz1 z1 (fun rz2 z2 => ((rz2 = 0 → pj_O_narrowLate_26 K z2) ∧ (¬ rz2 = 0 → pj_O_narrowLate_27 K 1 z2))))))
def pj_O_flowLate_97 (K : Sta → Prop) (z : Sta) : Prop :=
  K z
def pj_O_flowLate_85 (K : Sta → Prop) (R31 : Int32 → Int32 → Int32 → Sta → Prop) (x1 : Int32) (x2 : Int32) (x3 : Int32) (z : Sta) : Prop :=
  ∀ v12 : Int32, v12 = x3 + 1 → R31 x1 x2 v12 z
def lp_O_flowLate_31 (K : Sta → Prop) (R16 : Int32 → Int32 → Sta → Prop) : Nat → Int32 → Int32 → Int32 → Sta → Prop
  | 0, _, _, _, _ => False
  | n + 1, x1, x2, x3, z => ∀ v3 : Int32, v3 = z.1 2 → ((v3 ≤ x3 → ∀ v4 : Int32, v4 = x2 + 1 → R16 x1 v4 z) ∧ (¬ v3 ≤ x3 → vp_in x3 16 ∧ ∀ v5 : Int32, v5 = z.2.1 10 x3.toNatClampNeg → ((v5 = 0 → pj_O_flowLate_85 K (fun x1 x2 x3 z => lp_O_flowLate_31 K R16 n x1 x2 x3 z) x1 x2 x3 z) ∧ (¬ v5 = 0 → vp_in x3 16 ∧ ∀ v6 : Int32, v6 = z.2.1 5 x3.toNatClampNeg → wp_O_narrowLate x3 v6 z (fun rz7 z7 => ∀ v8 : Int32, v8 = x1 ||| rz7 → vp_in x3 16 ∧ ∀ v9 : Int32, v9 = z7.2.1 6 x3.toNatClampNeg → wp_O_narrowLate x3 v9 z7 (fun rz10 z10 => ∀ v11 : Int32, v11 = v8 ||| rz10 → pj_O_flowLate_85 K (fun x1 x2 x3 z => lp_O_flowLate_31 K R16 n x1 x2 x3 z) v11 x2 x3 z10))))))
def lp_O_flowLate_16 (K : Sta → Prop) : Nat → Int32 → Int32 → Sta → Prop
  | 0, _, _, _ => False
  | n + 1, x1, x2, z => ((x1 = 0 → pj_O_flowLate_97 K z) ∧ (¬ x1 = 0 → (((385 : Int32) ≤ x2 → pj_O_flowLate_97 K z) ∧ (¬ (385 : Int32) ≤ x2 → ∃ n31 : Nat, lp_O_flowLate_31 K (fun x1 x2 z => lp_O_flowLate_16 K n x1 x2 z) n31 0 x2 0 z))))
def wp_O_flowLate (z : Sta) (K : Sta → Prop) : Prop :=
  wp_O_laterOn (-1) 0 z (fun rz1 z1 => vp_in (0 : Int32) 16 ∧ ∀ z2 : Sta, z2 = zL z1 8 (vp_updL (z1.2.2 8) (0 : Int32).toNatClampNeg rz1) → ∃ n16 : Nat, lp_O_flowLate_16 K n16 1 0 z2)
def pj_O_readBlock_169 (K : Sta → Prop) (R37 : Int32 → Int32 → Int32 → Sta → Prop) (x1 : Int32) (x2 : Int32) (x3 : Int32) (z : Sta) : Prop :=
  ∀ v30 : Int32, v30 = x3 + 1 → R37 x1 x2 v30 z
def pj_O_readBlock_111 (K : Sta → Prop) (R37 : Int32 → Int32 → Int32 → Sta → Prop) (x1 : Int32) (x2 : Int32) (x3 : Int32) (z : Sta) : Prop :=
  vp_in x3 80 ∧ ∀ v20 : Int32, v20 = z.2.1 1 x3.toNatClampNeg → ((v20 = (3 : Int32) → pj_O_readBlock_169 K R37 x1 x2 x3 z) ∧ (¬ v20 = (3 : Int32) → vp_in x3 80 ∧ ∀ v21 : Int32, v21 = z.2.1 2 x3.toNatClampNeg → vp_in v21 6 ∧ ∀ v22 : Int64, v22 = z.2.2 0 v21.toNatClampNeg → vp_in x1 16 ∧ ∀ v23 : Int64, v23 = z.2.2 1 x1.toNatClampNeg → ∀ v24 : Int64, v24 = v23 ||| v22 → vp_in x1 16 ∧ ∀ z25 : Sta, z25 = zL z 1 (vp_updL (z.2.2 1) x1.toNatClampNeg v24) → vp_in x1 16 ∧ ∀ v26 : Int64, v26 = z25.2.2 3 x1.toNatClampNeg → ∀ v27 : Int64, v27 = v22 ^^^ (-1 : Int64) → ∀ v28 : Int64, v28 = v26 &&& v27 → vp_in x1 16 ∧ ∀ z29 : Sta, z29 = zL z25 3 (vp_updL (z25.2.2 3) x1.toNatClampNeg v28) → pj_O_readBlock_169 K R37 x1 x2 x3 z29))
def lp_O_readBlock_37 (K : Sta → Prop) : Nat → Int32 → Int32 → Int32 → Sta → Prop
  | 0, _, _, _, _ => False
  | n + 1, x1, x2, x3, z => vp_in x1 16 ∧ ∀ v6 : Int32, v6 = z.2.1 0 x1.toNatClampNeg → ∀ v7 : Int32, v7 = x2 + v6 → ((v7 ≤ x3 → K z) ∧ (¬ v7 ≤ x3 → vp_in x3 80 ∧ ∀ v8 : Int32, v8 = z.2.1 1 x3.toNatClampNeg → ((¬ v8 = (2 : Int32) → pj_O_readBlock_111 K (fun x1 x2 x3 z => lp_O_readBlock_37 K n x1 x2 x3 z) x1 x2 x3 z) ∧ (v8 = (2 : Int32) → vp_in x3 80 ∧ ∀ v9 : Int32, v9 = z.2.1 3 x3.toNatClampNeg → ∀ v10 : Int64, v10 = (1 : Int64) <<< (v9.toInt64 &&& 63) → vp_in x1 16 ∧ ∀ v11 : Int64, v11 = z.2.2 2 x1.toNatClampNeg → vp_in x1 16 ∧ ∀ v12 : Int64, v12 = z.2.2 1 x1.toNatClampNeg → ∀ v13 : Int64, v13 = v12 ^^^ (-1 : Int64) → ∀ v14 : Int64, v14 = v10 &&& v13 → ∀ v15 : Int64, v15 = v11 ||| v14 → vp_in x1 16 ∧ ∀ z16 : Sta, z16 = zL z 2 (vp_updL (z.2.2 2) x1.toNatClampNeg v15) → vp_in x1 16 ∧ ∀ v17 : Int64, v17 = z16.2.2 3 x1.toNatClampNeg → ∀ v18 : Int64, v18 = v17 ||| v10 → vp_in x1 16 ∧ ∀ z19 : Sta, z19 = zL z16 3 (vp_updL (z16.2.2 3) x1.toNatClampNeg v18) → pj_O_readBlock_111 K (fun x1 x2 x3 z => lp_O_readBlock_37 K n x1 x2 x3 z) x1 x2 x3 z19))))
def wp_O_readBlock (x1 : Int32) (z : Sta) (K : Sta → Prop) : Prop :=
  vp_in x1 16 ∧ ∀ z1 : Sta, z1 = zL z 1 (vp_updL (z.2.2 1) x1.toNatClampNeg (0 : Int64)) → vp_in x1 16 ∧ ∀ z2 : Sta, z2 = zL z1 2 (vp_updL (z1.2.2 2) x1.toNatClampNeg (0 : Int64)) → vp_in x1 16 ∧ ∀ z3 : Sta, z3 = zL z2 3 (vp_updL (z2.2.2 3) x1.toNatClampNeg (0 : Int64)) → vp_in x1 16 ∧ ∀ v4 : Int32, v4 = z3.2.1 10 x1.toNatClampNeg → ((¬ v4 = 0 → ∀ v5 : Int32, v5 = x1 * 5 → ∃ n37 : Nat, lp_O_readBlock_37 K n37 x1 v5 v5 z3) ∧ (v4 = 0 → K z3))
def pj_O_fillSets_24 (K : Sta → Prop) (x1 : Int32) (y0 : Int64) (z : Sta) : Prop :=
  vp_in x1 16 ∧ ∀ z5 : Sta, z5 = zL z 4 (vp_updL (z.2.2 4) x1.toNatClampNeg y0) → vp_in x1 16 ∧ ∀ z6 : Sta, z6 = zL z5 5 (vp_updL (z5.2.2 5) x1.toNatClampNeg y0) → vp_in x1 16 ∧ ∀ z7 : Sta, z7 = zL z6 6 (vp_updL (z6.2.2 6) x1.toNatClampNeg y0) → vp_in x1 16 ∧ ∀ z8 : Sta, z8 = zL z7 7 (vp_updL (z7.2.2 7) x1.toNatClampNeg y0) → vp_in x1 16 ∧ ∀ z9 : Sta, z9 = zL z8 8 (vp_updL (z8.2.2 8) x1.toNatClampNeg y0) → K z9
def wp_O_fillSets (x1 : Int32) (z : Sta) (K : Sta → Prop) : Prop :=
  vp_in x1 16 ∧ ∀ v1 : Int32, v1 = z.2.1 10 x1.toNatClampNeg → ((v1 = 0 → pj_O_fillSets_24 K x1 0 z) ∧ (¬ v1 = 0 → ∀ v2 : Int32, v2 = z.1 3 → ∀ v3 : Int64, v3 = (1 : Int64) <<< (v2.toInt64 &&& 63) → ∀ v4 : Int64, v4 = v3 - (1 : Int64) → pj_O_fillSets_24 K x1 v4 z))
def lp_O_findSets_47 (K : Sta → Prop) : Nat → Int32 → Sta → Prop
  | 0, _, _ => False
  | n + 1, x1, z => ∀ v9 : Int32, v9 = z.1 2 → ((v9 ≤ x1 → K z) ∧ (¬ v9 ≤ x1 → vp_in x1 16 ∧ ∀ v10 : Int64, v10 = z.2.2 2 x1.toNatClampNeg → vp_in x1 16 ∧ ∀ v11 : Int64, v11 = z.2.2 8 x1.toNatClampNeg → ∀ v12 : Int64, v12 = v11 ^^^ (-1 : Int64) → ∀ v13 : Int64, v13 = v10 &&& v12 → vp_in x1 16 ∧ ∀ z14 : Sta, z14 = zL z 9 (vp_updL (z.2.2 9) x1.toNatClampNeg v13) → ∀ v15 : Int32, v15 = x1 + 1 → lp_O_findSets_47 K n v15 z14))
def lp_O_findSets_6 (K : Sta → Prop) : Nat → Int32 → Sta → Prop
  | 0, _, _ => False
  | n + 1, x1, z => ∀ v2 : Int32, v2 = z.1 2 → ((v2 ≤ x1 → wp_O_flowThere z (fun z3 => wp_O_flowWanted z3 (fun z4 => wp_O_flowLate z4 (fun z5 => ∃ n47 : Nat, lp_O_findSets_47 K n47 0 z5)))) ∧ (¬ v2 ≤ x1 → wp_O_readBlock x1 z (fun z6 => wp_O_fillSets x1 z6 (fun z7 => ∀ v8 : Int32, v8 = x1 + 1 → lp_O_findSets_6 K n v8 z7))))
def wp_O_findSets (z : Sta) (K : Sta → Prop) : Prop :=
  wp_O_findReached z (fun z1 => ∃ n6 : Nat, lp_O_findSets_6 K n6 0 z1)
def wp_G_bitCount (x0 : Int64) (z : Sta) (K : Int32 → Sta → Prop) : Prop :=
  ∀ v1 : Int64, v1 = (x0.toUInt64 >>> ((1 : Int32).toInt64.toUInt64 &&& Int64.toUInt64 63)).toInt64 → ∀ v2 : Int64, v2 = v1 &&& (6148914691236517205 : Int64) → ∀ v3 : Int64, v3 = x0 - v2 → ∀ v4 : Int64, v4 = v3 &&& (3689348814741910323 : Int64) → ∀ v5 : Int64, v5 = (v3.toUInt64 >>> ((2 : Int32).toInt64.toUInt64 &&& Int64.toUInt64 63)).toInt64 → ∀ v6 : Int64, v6 = v5 &&& (3689348814741910323 : Int64) → ∀ v7 : Int64, v7 = v4 + v6 → ∀ v8 : Int64, v8 = (v7.toUInt64 >>> ((4 : Int32).toInt64.toUInt64 &&& Int64.toUInt64 63)).toInt64 → ∀ v9 : Int64, v9 = v7 + v8 → ∀ v10 : Int64, v10 = v9 &&& (1085102592571150095 : Int64) → ∀ v11 : Int64, v11 = (v10.toUInt64 >>> ((8 : Int32).toInt64.toUInt64 &&& Int64.toUInt64 63)).toInt64 → ∀ v12 : Int64, v12 = v10 + v11 → ∀ v13 : Int64, v13 = (v12.toUInt64 >>> ((16 : Int32).toInt64.toUInt64 &&& Int64.toUInt64 63)).toInt64 → ∀ v14 : Int64, v14 = v12 + v13 → ∀ v15 : Int64, v15 = (v14.toUInt64 >>> ((32 : Int32).toInt64.toUInt64 &&& Int64.toUInt64 63)).toInt64 → ∀ v16 : Int64, v16 = v14 + v15 → ∀ v17 : Int32, v17 = v16.toInt32 → ∀ v18 : Int32, v18 = v17 &&& 127 → K v18 z
def lp_O_countMoved_4 (K : Int32 → Sta → Prop) : Nat → Int64 → Int32 → Sta → Prop
  | 0, _, _, _ => False
  | n + 1, x1, x3, z => ∀ v1 : Int32, v1 = z.1 2 → ((v1 ≤ x3 → wp_G_bitCount x1 z (fun rz2 z2 => K rz2 z2)) ∧ (¬ v1 ≤ x3 → vp_in x3 16 ∧ ∀ v3 : Int64, v3 = z.2.2 9 x3.toNatClampNeg → ∀ v4 : Int64, v4 = x1 ||| v3 → ∀ v5 : Int32, v5 = x3 + 1 → lp_O_countMoved_4 K n v4 v5 z))
def wp_O_countMoved (z : Sta) (K : Int32 → Sta → Prop) : Prop :=
  ∃ n4 : Nat, lp_O_countMoved_4 K n4 0 0 z
def wp_O_setOf (x1 : Int32) (x2 : Int32) (z : Sta) (K : Int64 → Sta → Prop) : Prop :=
  ((x2 = 0 → vp_in x1 16 ∧ ∀ v1 : Int64, v1 = z.2.2 4 x1.toNatClampNeg → K v1 z) ∧ (x2 = 1 → vp_in x1 16 ∧ ∀ v2 : Int64, v2 = z.2.2 5 x1.toNatClampNeg → K v2 z) ∧ (x2 = 2 → vp_in x1 16 ∧ ∀ v3 : Int64, v3 = z.2.2 6 x1.toNatClampNeg → K v3 z) ∧ (x2 = 3 → vp_in x1 16 ∧ ∀ v4 : Int64, v4 = z.2.2 7 x1.toNatClampNeg → K v4 z) ∧ (x2 = 4 → vp_in x1 16 ∧ ∀ v5 : Int64, v5 = z.2.2 8 x1.toNatClampNeg → K v5 z) ∧ (¬ x2 = 0 ∧ ¬ x2 = 1 ∧ ¬ x2 = 2 ∧ ¬ x2 = 3 ∧ ¬ x2 = 4 → vp_in x1 16 ∧ ∀ v6 : Int64, v6 = z.2.2 9 x1.toNatClampNeg → K v6 z))
def pj_O_hasEdge_73 (K : Int32 → Sta → Prop) (y0 : Int32) (z : Sta) : Prop :=
  (y0 = 0 ∨ y0 = 1) ∧ K y0 z
def pj_O_hasEdge_68 (K : Int32 → Sta → Prop) (z : Sta) : Prop :=
  pj_O_hasEdge_73 K 1 z
def pj_O_hasEdge_40 (K : Int32 → Sta → Prop) (z : Sta) : Prop :=
  ((0 : Int32) = 0 ∨ (0 : Int32) = 1) ∧ K 0 z
def pj_O_hasEdge_14 (K : Int32 → Sta → Prop) (y0 : Int32) (z : Sta) : Prop :=
  (y0 = 0 ∨ y0 = 1) ∧ K y0 z
def wp_O_hasEdge (x1 : Int32) (x2 : Int32) (z : Sta) (K : Int32 → Sta → Prop) : Prop :=
  ((¬ x1 = (-1 : Int32) → wp_P_hasBlock x1 z (fun rz1 z1 => ((rz1 = 0 → pj_O_hasEdge_40 K z1) ∧ (¬ rz1 = 0 → vp_in x1 16 ∧ ∀ v2 : Int32, v2 = z1.2.1 10 x1.toNatClampNeg → ((v2 = 0 → pj_O_hasEdge_40 K z1) ∧ (¬ v2 = 0 → ((¬ x2 = (-1 : Int32) → vp_in x1 16 ∧ ∀ v3 : Int32, v3 = z1.2.1 5 x1.toNatClampNeg → ((v3 = x2 → pj_O_hasEdge_68 K z1) ∧ (¬ v3 = x2 → vp_in x1 16 ∧ ∀ v4 : Int32, v4 = z1.2.1 6 x1.toNatClampNeg → ((¬ v4 = x2 → pj_O_hasEdge_73 K 0 z1) ∧ (v4 = x2 → pj_O_hasEdge_68 K z1))))) ∧ (x2 = (-1 : Int32) → pj_O_hasEdge_40 K z1)))))))) ∧ (x1 = (-1 : Int32) → ((¬ x2 = 0 → pj_O_hasEdge_14 K 0 z) ∧ (x2 = 0 → pj_O_hasEdge_14 K 1 z))))
def wp_O_putOn (x1 : Int32) (x2 : Int32) (z : Sta) (K : Int64 → Sta → Prop) : Prop :=
  wp_O_laterOn x1 x2 z (fun rz1 z1 => vp_in x2 16 ∧ ∀ v2 : Int64, v2 = z1.2.2 8 x2.toNatClampNeg → ∀ v3 : Int64, v3 = v2 ^^^ (-1 : Int64) → ∀ v4 : Int64, v4 = rz1 &&& v3 → K v4 z1)
def lp_A_fill_26_5 (K : Sta → Prop) : Nat → Int32 → Int32 → Int32 → Sta → Prop
  | 0, _, _, _, _ => False
  | n + 1, x1, x2, x3, z => ((x3 ≤ x2 → K z) ∧ (¬ x3 ≤ x2 → vp_in x2 6 ∧ ∀ z2 : Sta, z2 = zA z 11 (upd (z.2.1 11) x2.toNatClampNeg x1) → ∀ v3 : Int32, v3 = x2 + 1 → lp_A_fill_26_5 K n x1 v3 x3 z2))
def wp_A_fill_26 (x1 : Int32) (z : Sta) (K : Sta → Prop) : Prop :=
  ∀ v1 : Int32, v1 = Int32.ofNat 6 → ∃ n5 : Nat, lp_A_fill_26_5 K n5 x1 0 v1 z
def lp_A_fill_27_5 (K : Sta → Prop) : Nat → Int32 → Int32 → Int32 → Sta → Prop
  | 0, _, _, _, _ => False
  | n + 1, x1, x2, x3, z => ((x3 ≤ x2 → K z) ∧ (¬ x3 ≤ x2 → vp_in x2 24 ∧ ∀ z2 : Sta, z2 = zA z 12 (upd (z.2.1 12) x2.toNatClampNeg x1) → ∀ v3 : Int32, v3 = x2 + 1 → lp_A_fill_27_5 K n x1 v3 x3 z2))
def wp_A_fill_27 (x1 : Int32) (z : Sta) (K : Sta → Prop) : Prop :=
  ∀ v1 : Int32, v1 = Int32.ofNat 24 → ∃ n5 : Nat, lp_A_fill_27_5 K n5 x1 0 v1 z
def lp_A_fill_29_5 (K : Sta → Prop) : Nat → Int32 → Int32 → Int32 → Sta → Prop
  | 0, _, _, _, _ => False
  | n + 1, x1, x2, x3, z => ((x3 ≤ x2 → K z) ∧ (¬ x3 ≤ x2 → vp_in x2 24 ∧ ∀ z2 : Sta, z2 = zA z 14 (upd (z.2.1 14) x2.toNatClampNeg x1) → ∀ v3 : Int32, v3 = x2 + 1 → lp_A_fill_29_5 K n x1 v3 x3 z2))
def wp_A_fill_29 (x1 : Int32) (z : Sta) (K : Sta → Prop) : Prop :=
  ∀ v1 : Int32, v1 = Int32.ofNat 24 → ∃ n5 : Nat, lp_A_fill_29_5 K n5 x1 0 v1 z
def wp_K_reset (x1 : Int32) (x2 : Int32) (x3 : Int32) (z : Sta) (K : Sta → Prop) : Prop :=
  ∀ z1 : Sta, z1 = zI z 4 (0 : Int32) → ∀ z2 : Sta, z2 = zI z1 5 (0 : Int32) → wp_A_fill_26 0 z2 (fun z3 => wp_A_fill_27 0 z3 (fun z4 => wp_A_fill_29 0 z4 (fun z5 => vp_in (0 : Int32) 6 ∧ ∀ z6 : Sta, z6 = zA z5 11 (upd (z5.2.1 11) (0 : Int32).toNatClampNeg x1) → vp_in (1 : Int32) 6 ∧ ∀ z7 : Sta, z7 = zA z6 11 (upd (z6.2.1 11) (1 : Int32).toNatClampNeg x2) → vp_in (2 : Int32) 6 ∧ ∀ z8 : Sta, z8 = zA z7 11 (upd (z7.2.1 11) (2 : Int32).toNatClampNeg x3) → K z8)))
def pj_P_valueOf_26_87 (K : Int32 → Sta → Prop) (y0 : Int32) (z : Sta) : Prop :=
  K y0 z
def wp_P_valueOf_26 (x1 : Int32) (z : Sta) (K : Int32 → Sta → Prop) : Prop :=
  vp_in x1 24 ∧ ∀ v1 : Int32, v1 = z.2.1 7 x1.toNatClampNeg → vp_in v1 6 ∧ ∀ v2 : Int32, v2 = z.2.1 11 v1.toNatClampNeg → vp_in x1 24 ∧ ∀ v3 : Int32, v3 = z.2.1 9 x1.toNatClampNeg → vp_in v3 6 ∧ ∀ v4 : Int32, v4 = z.2.1 11 v3.toNatClampNeg → vp_in x1 24 ∧ ∀ v5 : Int32, v5 = z.2.1 8 x1.toNatClampNeg → ((v5 = 0 → ∀ v6 : Int32, v6 = v2 + v4 → K v6 z) ∧ (v5 = 1 → ∀ v7 : Int32, v7 = v2 - v4 → K v7 z) ∧ (v5 = 2 → ∀ v8 : Int32, v8 = v2 * v4 → K v8 z) ∧ (v5 = 3 → ∀ v9 : Int32, v9 = v2 &&& v4 → K v9 z) ∧ (¬ v5 = 0 ∧ ¬ v5 = 1 ∧ ¬ v5 = 2 ∧ ¬ v5 = 3 → ((v4 ≤ v2 → pj_P_valueOf_26_87 K 0 z) ∧ (¬ v4 ≤ v2 → pj_P_valueOf_26_87 K 1 z))))
def wp_K_compute (x1 : Int32) (z : Sta) (K : Int32 → Sta → Prop) : Prop :=
  ∀ v1 : Int32, v1 = z.1 4 → ∀ v2 : Int32, v2 = v1 + 1 → ∀ z3 : Sta, z3 = zI z 4 v2 → vp_in x1 24 ∧ ∀ v4 : Int32, v4 = z3.2.1 12 x1.toNatClampNeg → ∀ v5 : Int32, v5 = v4 + 1 → vp_in x1 24 ∧ ∀ z6 : Sta, z6 = zA z3 12 (upd (z3.2.1 12) x1.toNatClampNeg v5) → wp_P_valueOf_26 x1 z6 (fun rz7 z7 => vp_in x1 24 ∧ ∀ z8 : Sta, z8 = zA z7 14 (upd (z7.2.1 14) x1.toNatClampNeg rz7) → vp_in x1 24 ∧ ∀ v9 : Int32, v9 = z8.2.1 14 x1.toNatClampNeg → K v9 z8)
def pj_K_goAlong_29 (K : Sta → Prop) (R2 : Int64 → Int32 → Sta → Prop) (x1 : Int64) (x3 : Int32) (z : Sta) : Prop :=
  ∀ v6 : Int32, v6 = x3 + 1 → R2 x1 v6 z
def lp_K_goAlong_2 (K : Sta → Prop) : Nat → Int64 → Int32 → Sta → Prop
  | 0, _, _, _ => False
  | n + 1, x1, x3, z => ∀ v1 : Int32, v1 = z.1 3 → ((v1 ≤ x3 → K z) ∧ (¬ v1 ≤ x3 → ∀ v2 : Int64, v2 = x1 >>> (x3.toInt64 &&& 63) → ∀ v3 : Int64, v3 = v2 &&& (1 : Int64) → ∀ v4 : Int32, v4 = lg_cmp v3 (0 : Int64) → ((v4 = 0 → pj_K_goAlong_29 K (fun x1 x3 z => lp_K_goAlong_2 K n x1 x3 z) x1 x3 z) ∧ (¬ v4 = 0 → wp_K_compute x3 z (fun rz5 z5 => pj_K_goAlong_29 K (fun x1 x3 z => lp_K_goAlong_2 K n x1 x3 z) x1 x3 z5)))))
def wp_K_goAlong (x1 : Int64) (z : Sta) (K : Sta → Prop) : Prop :=
  ∃ n2 : Nat, lp_K_goAlong_2 K n2 x1 0 z
def pj_K_giveOut_19 (K : Sta → Prop) (z : Sta) : Prop :=
  ∀ v4 : Int32, v4 = z.1 5 → ∀ v5 : Int32, v5 = v4 + 1 → ∀ z6 : Sta, z6 = zI z 5 v5 → K z6
def wp_K_giveOut (x1 : Int32) (z : Sta) (K : Sta → Prop) : Prop :=
  ∀ v1 : Int32, v1 = z.1 5 → (((100 : Int32) ≤ v1 → pj_K_giveOut_19 K z) ∧ (¬ (100 : Int32) ≤ v1 → ∀ v2 : Int32, v2 = z.1 5 → vp_in v2 100 ∧ ∀ z3 : Sta, z3 = zA z 13 (upd (z.2.1 13) v2.toNatClampNeg x1) → pj_K_giveOut_19 K z3))
def pj_K_goThroughSimple_44 (K : Sta → Prop) (z : Sta) : Prop :=
  K z
def wp_K_goThroughSimple (x1 : Int32) (x2 : Int32) (x3 : Int32) (z : Sta) (K : Sta → Prop) : Prop :=
  ((¬ x1 = 0 → ((¬ x1 = (1 : Int32) → vp_in x2 6 ∧ ∀ v1 : Int32, v1 = z.2.1 11 x2.toNatClampNeg → wp_K_giveOut v1 z (fun z2 => pj_K_goThroughSimple_44 K z2)) ∧ (x1 = (1 : Int32) → vp_in x2 6 ∧ ∀ z3 : Sta, z3 = zA z 11 (upd (z.2.1 11) x2.toNatClampNeg x3) → pj_K_goThroughSimple_44 K z3))) ∧ (x1 = 0 → vp_in x3 6 ∧ ∀ v4 : Int32, v4 = z.2.1 11 x3.toNatClampNeg → vp_in x2 6 ∧ ∀ z5 : Sta, z5 = zA z 11 (upd (z.2.1 11) x2.toNatClampNeg v4) → pj_K_goThroughSimple_44 K z5))
def pj_K_goThroughBlock_152 (K : Sta → Prop) (R12 : Int32 → Int64 → Int32 → Int32 → Sta → Prop) (x1 : Int32) (x4 : Int64) (x6 : Int32) (x7 : Int32) (z : Sta) : Prop :=
  ∀ v19 : Int32, v19 = x7 + 1 → R12 x1 x4 x6 v19 z
def pj_K_goThroughBlock_109 (K : Sta → Prop) (R12 : Int32 → Int64 → Int32 → Int32 → Sta → Prop) (x1 : Int32) (x4 : Int64) (x6 : Int32) (x7 : Int32) (x8 : Int32) (y0 : Int32) (y1 : Int32) (z : Sta) : Prop :=
  vp_in y1 6 ∧ ∀ z15 : Sta, z15 = zA z 11 (upd (z.2.1 11) y1.toNatClampNeg y0) → ∀ v16 : Int64, v16 = (1 : Int64) <<< (x8.toInt64 &&& 63) → ∀ v17 : Int64, v17 = v16 ^^^ (-1 : Int64) → ∀ v18 : Int64, v18 = x4 &&& v17 → pj_K_goThroughBlock_152 K R12 x1 v18 x6 x7 z15
def pj_K_goThroughBlock_72 (K : Sta → Prop) (R12 : Int32 → Int64 → Int32 → Int32 → Sta → Prop) (x1 : Int32) (x4 : Int64) (x6 : Int32) (x7 : Int32) (x8 : Int32) (y0 : Int32) (z : Sta) : Prop :=
  vp_in x7 80 ∧ ∀ v12 : Int32, v12 = z.2.1 2 x7.toNatClampNeg → ((y0 = 0 → wp_K_compute x8 z (fun rz13 z13 => pj_K_goThroughBlock_109 K R12 x1 x4 x6 x7 x8 rz13 v12 z13)) ∧ (¬ y0 = 0 → vp_in x8 24 ∧ ∀ v14 : Int32, v14 = z.2.1 14 x8.toNatClampNeg → pj_K_goThroughBlock_109 K R12 x1 x4 x6 x7 x8 v14 v12 z))
def lp_K_goThroughBlock_12 (K : Sta → Prop) : Nat → Int32 → Int64 → Int32 → Int32 → Sta → Prop
  | 0, _, _, _, _, _ => False
  | n + 1, x1, x4, x6, x7, z => vp_in x1 16 ∧ ∀ v2 : Int32, v2 = z.2.1 0 x1.toNatClampNeg → ∀ v3 : Int32, v3 = x6 + v2 → ((v3 ≤ x7 → K z) ∧ (¬ v3 ≤ x7 → vp_in x7 80 ∧ ∀ v4 : Int32, v4 = z.2.1 3 x7.toNatClampNeg → vp_in x7 80 ∧ ∀ v5 : Int32, v5 = z.2.1 1 x7.toNatClampNeg → ((¬ v5 = (2 : Int32) → vp_in x7 80 ∧ ∀ v6 : Int32, v6 = z.2.1 1 x7.toNatClampNeg → vp_in x7 80 ∧ ∀ v7 : Int32, v7 = z.2.1 2 x7.toNatClampNeg → wp_K_goThroughSimple v6 v7 v4 z (fun z8 => pj_K_goThroughBlock_152 K (fun x1 x4 x6 x7 z => lp_K_goThroughBlock_12 K n x1 x4 x6 x7 z) x1 x4 x6 x7 z8)) ∧ (v5 = (2 : Int32) → ∀ v9 : Int64, v9 = x4 >>> (v4.toInt64 &&& 63) → ∀ v10 : Int64, v10 = v9 &&& (1 : Int64) → ∀ v11 : Int32, v11 = lg_cmp v10 (0 : Int64) → ((v11 = 0 → pj_K_goThroughBlock_72 K (fun x1 x4 x6 x7 z => lp_K_goThroughBlock_12 K n x1 x4 x6 x7 z) x1 x4 x6 x7 v4 0 z) ∧ (¬ v11 = 0 → pj_K_goThroughBlock_72 K (fun x1 x4 x6 x7 z => lp_K_goThroughBlock_12 K n x1 x4 x6 x7 z) x1 x4 x6 x7 v4 1 z))))))
def wp_K_goThroughBlock (x1 : Int32) (x2 : Int64) (z : Sta) (K : Sta → Prop) : Prop :=
  ∀ v1 : Int32, v1 = x1 * 5 → ∃ n12 : Nat, lp_K_goThroughBlock_12 K n12 x1 x2 v1 v1 z
def pj_K_goThrough_106 (K : Sta → Prop) (x4 : Int32) (z : Sta) : Prop :=
  ∀ z10 : Sta, z10 = zI z 6 x4 → K z10
def pj_K_goThrough_99 (K : Sta → Prop) (R7 : Int32 → Int32 → Int32 → Int32 → Sta → Prop) (x1 : Int32) (x2 : Int32) (x4 : Int32) (y0 : Int32) (z : Sta) : Prop :=
  ∀ v9 : Int32, v9 = x4 + 1 → R7 x1 x2 y0 v9 z
def pj_K_goThrough_56 (K : Sta → Prop) (R7 : Int32 → Int32 → Int32 → Int32 → Sta → Prop) (x1 : Int32) (x3 : Int32) (x4 : Int32) (y0 : Int64) (y1 : Int32) (z : Sta) : Prop :=
  wp_K_goThroughBlock y1 y0 z (fun z4 => vp_in x3 16 ∧ ∀ v5 : Int32, v5 = z4.2.1 4 x3.toNatClampNeg → vp_in v5 6 ∧ ∀ v6 : Int32, v6 = z4.2.1 11 v5.toNatClampNeg → ((v6 = 0 → vp_in x3 16 ∧ ∀ v7 : Int32, v7 = z4.2.1 6 x3.toNatClampNeg → pj_K_goThrough_99 K R7 x1 x3 x4 v7 z4) ∧ (¬ v6 = 0 → vp_in x3 16 ∧ ∀ v8 : Int32, v8 = z4.2.1 5 x3.toNatClampNeg → pj_K_goThrough_99 K R7 x1 x3 x4 v8 z4)))
def pj_K_goThrough_37 (K : Sta → Prop) (R7 : Int32 → Int32 → Int32 → Int32 → Sta → Prop) (x1 : Int32) (x3 : Int32) (x4 : Int32) (z : Sta) : Prop :=
  ((x1 = 0 → pj_K_goThrough_56 K R7 x1 x3 x4 0 x3 z) ∧ (¬ x1 = 0 → vp_in x3 16 ∧ ∀ v3 : Int64, v3 = z.2.2 9 x3.toNatClampNeg → pj_K_goThrough_56 K R7 x1 x3 x4 v3 x3 z))
def lp_K_goThrough_7 (K : Sta → Prop) : Nat → Int32 → Int32 → Int32 → Int32 → Sta → Prop
  | 0, _, _, _, _, _ => False
  | n + 1, x1, x2, x3, x4, z => ((x3 = (-1 : Int32) → pj_K_goThrough_106 K x4 z) ∧ (¬ x3 = (-1 : Int32) → (((200 : Int32) ≤ x4 → pj_K_goThrough_106 K x4 z) ∧ (¬ (200 : Int32) ≤ x4 → ((x1 = 0 → pj_K_goThrough_37 K (fun x1 x2 x3 x4 z => lp_K_goThrough_7 K n x1 x2 x3 x4 z) x1 x3 x4 z) ∧ (¬ x1 = 0 → wp_O_putOn x2 x3 z (fun rz1 z1 => wp_K_goAlong rz1 z1 (fun z2 => pj_K_goThrough_37 K (fun x1 x2 x3 x4 z => lp_K_goThrough_7 K n x1 x2 x3 x4 z) x1 x3 x4 z2))))))))
def wp_K_goThrough (x1 : Int32) (z : Sta) (K : Sta → Prop) : Prop :=
  ∃ n7 : Nat, lp_K_goThrough_7 K n7 x1 (-1) 0 0 z
def wp_C_outs (z : Sta) (K : Int32 → Sta → Prop) : Prop :=
  ∀ v1 : Int32, v1 = z.1 5 → K v1 z
def pj_C_computed_10 (K : Int32 → Sta → Prop) (z : Sta) : Prop :=
  K 0 z
def wp_C_computed (x1 : Int32) (z : Sta) (K : Int32 → Sta → Prop) : Prop :=
  ((x1 < 0 → pj_C_computed_10 K z) ∧ (¬ x1 < 0 → ((x1 < (24 : Int32) → vp_in x1 24 ∧ ∀ v1 : Int32, v1 = z.2.1 12 x1.toNatClampNeg → K v1 z) ∧ (¬ x1 < (24 : Int32) → pj_C_computed_10 K z))))
def wp_M_thrown (z : Sta) (K : Int32 → Sta → Prop) : Prop :=
  ∀ v1 : Int32, v1 = z.1 7 → K v1 z
def wp_M_fail (x1 : Int32) (z : Sta) (K : Int32 → Sta → Prop) : Prop :=
  ∀ z1 : Sta, z1 = zI z 7 x1 → K 0 z1
def pj_M_within_15 (K : Int32 → Sta → Prop) (y0 : Int32) (z : Sta) : Prop :=
  (y0 = 0 ∨ y0 = 1) ∧ K y0 z
def pj_M_within_14 (K : Int32 → Sta → Prop) (z : Sta) : Prop :=
  pj_M_within_15 K 0 z
def wp_M_within (x0 : Int32) (x1 : Int32) (x2 : Int32) (z : Sta) (K : Int32 → Sta → Prop) : Prop :=
  ((x0 < x1 → pj_M_within_14 K z) ∧ (¬ x0 < x1 → ((x2 < x0 → pj_M_within_14 K z) ∧ (¬ x2 < x0 → pj_M_within_15 K 1 z))))
def wp_M_block (z : Sta) (K : Int32 → Sta → Prop) : Prop :=
  ∀ z1 : Sta, z1 = zI z 7 (0 : Int32) → ∀ v2 : Int32, v2 = z1.1 8 → ((¬ v2 = (16 : Int32) → ∀ v3 : Int32, v3 = z1.1 8 → vp_in v3 16 ∧ ∀ z4 : Sta, z4 = zA z1 15 (upd (z1.2.1 15) v3.toNatClampNeg (0 : Int32)) → ∀ v5 : Int32, v5 = z4.1 8 → ∀ v6 : Int32, v6 = 4 * v5 → vp_in v6 64 ∧ ∀ z7 : Sta, z7 = zA z4 17 (upd (z4.2.1 17) v6.toNatClampNeg (0 : Int32)) → ∀ v8 : Int32, v8 = z7.1 8 → ∀ v9 : Int32, v9 = v8 + 1 → ∀ z10 : Sta, z10 = zI z7 8 v9 → ∀ z11 : Sta, z11 = zI z10 10 (0 : Int32) → ∀ v12 : Int32, v12 = z11.1 8 → ∀ v13 : Int32, v13 = v12 - 1 → K v13 z11) ∧ (v2 = (16 : Int32) → wp_M_fail 1 z1 (fun rz14 z14 => K rz14 z14)))
def pj_M_find_55 (K : Int32 → Sta → Prop) (R6 : Int32 → Int32 → Int32 → Int32 → Int32 → Sta → Prop) (x1 : Int32) (x2 : Int32) (x3 : Int32) (x5 : Int32) (y0 : Int32) (z : Sta) : Prop :=
  ∀ v5 : Int32, v5 = x5 + 1 → R6 x1 x2 x3 y0 v5 z
def pj_M_find_53 (K : Int32 → Sta → Prop) (R6 : Int32 → Int32 → Int32 → Int32 → Int32 → Sta → Prop) (x1 : Int32) (x2 : Int32) (x3 : Int32) (x4 : Int32) (x5 : Int32) (z : Sta) : Prop :=
  pj_M_find_55 K R6 x1 x2 x3 x5 x4 z
def lp_M_find_6 (K : Int32 → Sta → Prop) : Nat → Int32 → Int32 → Int32 → Int32 → Int32 → Sta → Prop
  | 0, _, _, _, _, _, _ => False
  | n + 1, x1, x2, x3, x4, x5, z => ∀ v1 : Int32, v1 = z.1 9 → ((v1 ≤ x5 → K x4 z) ∧ (¬ v1 ≤ x5 → vp_in x5 24 ∧ ∀ v2 : Int32, v2 = z.2.1 18 x5.toNatClampNeg → ((¬ v2 = x1 → pj_M_find_53 K (fun x1 x2 x3 x4 x5 z => lp_M_find_6 K n x1 x2 x3 x4 x5 z) x1 x2 x3 x4 x5 z) ∧ (v2 = x1 → vp_in x5 24 ∧ ∀ v3 : Int32, v3 = z.2.1 19 x5.toNatClampNeg → ((¬ v3 = x2 → pj_M_find_53 K (fun x1 x2 x3 x4 x5 z => lp_M_find_6 K n x1 x2 x3 x4 x5 z) x1 x2 x3 x4 x5 z) ∧ (v3 = x2 → vp_in x5 24 ∧ ∀ v4 : Int32, v4 = z.2.1 20 x5.toNatClampNeg → ((¬ v4 = x3 → pj_M_find_53 K (fun x1 x2 x3 x4 x5 z => lp_M_find_6 K n x1 x2 x3 x4 x5 z) x1 x2 x3 x4 x5 z) ∧ (v4 = x3 → pj_M_find_55 K (fun x1 x2 x3 x4 x5 z => lp_M_find_6 K n x1 x2 x3 x4 x5 z) x1 x2 x3 x5 x5 z))))))))
def wp_M_find (x1 : Int32) (x2 : Int32) (x3 : Int32) (z : Sta) (K : Int32 → Sta → Prop) : Prop :=
  ∃ n6 : Nat, lp_M_find_6 K n6 x1 x2 x3 (-1) 0 z
def pj_M_statement_233 (K : Int32 → Sta → Prop) (x1 : Int32) (x2 : Int32) (x3 : Int32) (x4 : Int32) (x5 : Int32) (x7 : Int32) (z : Sta) : Prop :=
  ∀ v24 : Int32, v24 = z.1 8 → ∀ v25 : Int32, v25 = v24 - 1 → ∀ v26 : Int32, v26 = 30 * v25 → ∀ v27 : Int32, v27 = z.1 8 → ∀ v28 : Int32, v28 = v27 - 1 → vp_in v28 16 ∧ ∀ v29 : Int32, v29 = z.2.1 15 v28.toNatClampNeg → ∀ v30 : Int32, v30 = 6 * v29 → ∀ v31 : Int32, v31 = v26 + v30 → vp_in v31 480 ∧ ∀ z32 : Sta, z32 = zA z 16 (upd (z.2.1 16) v31.toNatClampNeg x1) → ∀ v33 : Int32, v33 = v31 + 1 → vp_in v33 480 ∧ ∀ z34 : Sta, z34 = zA z32 16 (upd (z32.2.1 16) v33.toNatClampNeg x2) → ∀ v35 : Int32, v35 = v31 + 2 → vp_in v35 480 ∧ ∀ z36 : Sta, z36 = zA z34 16 (upd (z34.2.1 16) v35.toNatClampNeg x3) → ∀ v37 : Int32, v37 = v31 + 3 → vp_in v37 480 ∧ ∀ z38 : Sta, z38 = zA z36 16 (upd (z36.2.1 16) v37.toNatClampNeg x4) → ∀ v39 : Int32, v39 = v31 + 4 → vp_in v39 480 ∧ ∀ z40 : Sta, z40 = zA z38 16 (upd (z38.2.1 16) v39.toNatClampNeg x5) → ∀ v41 : Int32, v41 = v31 + 5 → vp_in v41 480 ∧ ∀ z42 : Sta, z42 = zA z40 16 (upd (z40.2.1 16) v41.toNatClampNeg x7) → ∀ v43 : Int32, v43 = z42.1 8 → ∀ v44 : Int32, v44 = v43 - 1 → vp_in v44 16 ∧ ∀ v45 : Int32, v45 = z42.2.1 15 v44.toNatClampNeg → ∀ v46 : Int32, v46 = v45 + 1 → vp_in v44 16 ∧ ∀ z47 : Sta, z47 = zA z42 15 (upd (z42.2.1 15) v44.toNatClampNeg v46) → ∀ z48 : Sta, z48 = zI z47 10 (0 : Int32) → ∀ v49 : Int32, v49 = z48.1 8 → ∀ v50 : Int32, v50 = v49 - 1 → vp_in v50 16 ∧ ∀ v51 : Int32, v51 = z48.2.1 15 v50.toNatClampNeg → K v51 z48
def pj_M_statement_164 (K : Int32 → Sta → Prop) (x1 : Int32) (x2 : Int32) (x3 : Int32) (x4 : Int32) (x5 : Int32) (y0 : Int32) (z : Sta) : Prop :=
  ((¬ x1 = (2 : Int32) → pj_M_statement_233 K x1 x2 x3 x4 x5 y0 z) ∧ (x1 = (2 : Int32) → ((0 ≤ y0 → pj_M_statement_233 K x1 x2 x3 x4 x5 y0 z) ∧ (¬ 0 ≤ y0 → ∀ v15 : Int32, v15 = z.1 9 → ((¬ v15 = (24 : Int32) → ∀ v16 : Int32, v16 = z.1 9 → vp_in v16 24 ∧ ∀ z17 : Sta, z17 = zA z 18 (upd (z.2.1 18) v16.toNatClampNeg x3) → vp_in v16 24 ∧ ∀ z18 : Sta, z18 = zA z17 19 (upd (z17.2.1 19) v16.toNatClampNeg x4) → vp_in v16 24 ∧ ∀ z19 : Sta, z19 = zA z18 20 (upd (z18.2.1 20) v16.toNatClampNeg x5) → ∀ v20 : Int32, v20 = z19.1 9 → ∀ v21 : Int32, v21 = v20 + 1 → ∀ z22 : Sta, z22 = zI z19 9 v21 → pj_M_statement_233 K x1 x2 x3 x4 x5 v16 z22) ∧ (v15 = (24 : Int32) → wp_M_fail 2 z (fun rz23 z23 => K rz23 z23)))))))
def pj_M_statement_140 (K : Int32 → Sta → Prop) (z : Sta) : Prop :=
  wp_M_fail 2 z (fun rz52 z52 => K rz52 z52)
def pj_M_statement_105 (K : Int32 → Sta → Prop) (x1 : Int32) (x2 : Int32) (x3 : Int32) (x4 : Int32) (x5 : Int32) (y0 : Int32) (z : Sta) : Prop :=
  ((¬ y0 = 0 → ∀ v9 : Int32, v9 = z.1 8 → ((v9 = 0 → pj_M_statement_140 K z) ∧ (¬ v9 = 0 → ∀ v10 : Int32, v10 = z.1 8 → ∀ v11 : Int32, v11 = v10 - 1 → vp_in v11 16 ∧ ∀ v12 : Int32, v12 = z.2.1 15 v11.toNatClampNeg → ((¬ v12 = (5 : Int32) → ((¬ x1 = (2 : Int32) → pj_M_statement_164 K x1 x2 x3 x4 x5 (-1) z) ∧ (x1 = (2 : Int32) → wp_M_find x3 x4 x5 z (fun rz13 z13 => pj_M_statement_164 K x1 x2 x3 x4 x5 rz13 z13)))) ∧ (v12 = (5 : Int32) → pj_M_statement_140 K z))))) ∧ (y0 = 0 → wp_M_fail 1 z (fun rz14 z14 => K rz14 z14)))
def pj_M_statement_104 (K : Int32 → Sta → Prop) (x1 : Int32) (x2 : Int32) (x3 : Int32) (x4 : Int32) (x5 : Int32) (z : Sta) : Prop :=
  pj_M_statement_105 K x1 x2 x3 x4 x5 0 z
def pj_M_statement_100 (K : Int32 → Sta → Prop) (x1 : Int32) (x2 : Int32) (x3 : Int32) (x4 : Int32) (x5 : Int32) (z : Sta) : Prop :=
  pj_M_statement_105 K x1 x2 x3 x4 x5 1 z
def pj_M_statement_66 (K : Int32 → Sta → Prop) (x1 : Int32) (x2 : Int32) (x3 : Int32) (x4 : Int32) (x5 : Int32) (z : Sta) : Prop :=
  ((¬ x1 = (2 : Int32) → pj_M_statement_100 K x1 x2 x3 x4 x5 z) ∧ (x1 = (2 : Int32) → wp_M_within x3 0 5 z (fun rz6 z6 => ((rz6 = 0 → pj_M_statement_104 K x1 x2 x3 x4 x5 z6) ∧ (¬ rz6 = 0 → wp_M_within x4 0 4 z6 (fun rz7 z7 => ((rz7 = 0 → pj_M_statement_104 K x1 x2 x3 x4 x5 z7) ∧ (¬ rz7 = 0 → wp_M_within x5 0 5 z7 (fun rz8 z8 => ((rz8 = 0 → pj_M_statement_104 K x1 x2 x3 x4 x5 z8) ∧ (¬ rz8 = 0 → pj_M_statement_100 K x1 x2 x3 x4 x5 z8)))))))))))
def pj_M_statement_48 (K : Int32 → Sta → Prop) (x1 : Int32) (x2 : Int32) (x3 : Int32) (x4 : Int32) (x5 : Int32) (z : Sta) : Prop :=
  ((¬ x1 = (1 : Int32) → pj_M_statement_66 K x1 x2 x3 x4 x5 z) ∧ (x1 = (1 : Int32) → wp_M_within x3 (-32768) 32767 z (fun rz5 z5 => ((rz5 = 0 → pj_M_statement_104 K x1 x2 x3 x4 x5 z5) ∧ (¬ rz5 = 0 → pj_M_statement_66 K x1 x2 x3 x4 x5 z5)))))
def pj_M_statement_28 (K : Int32 → Sta → Prop) (x1 : Int32) (x2 : Int32) (x3 : Int32) (x4 : Int32) (x5 : Int32) (y0 : Int32) (z : Sta) : Prop :=
  ((y0 = 0 → pj_M_statement_104 K x1 x2 x3 x4 x5 z) ∧ (¬ y0 = 0 → ((¬ x1 = 0 → pj_M_statement_48 K x1 x2 x3 x4 x5 z) ∧ (x1 = 0 → wp_M_within x3 0 5 z (fun rz4 z4 => ((rz4 = 0 → pj_M_statement_104 K x1 x2 x3 x4 x5 z4) ∧ (¬ rz4 = 0 → pj_M_statement_48 K x1 x2 x3 x4 x5 z4)))))))
def pj_M_statement_27 (K : Int32 → Sta → Prop) (x1 : Int32) (x2 : Int32) (x3 : Int32) (x4 : Int32) (x5 : Int32) (z : Sta) : Prop :=
  pj_M_statement_28 K x1 x2 x3 x4 x5 0 z
def wp_M_statement (x1 : Int32) (x2 : Int32) (x3 : Int32) (x4 : Int32) (x5 : Int32) (z : Sta) (K : Int32 → Sta → Prop) : Prop :=
  ∀ z1 : Sta, z1 = zI z 7 (0 : Int32) → wp_M_within x1 0 3 z1 (fun rz2 z2 => ((rz2 = 0 → pj_M_statement_27 K x1 x2 x3 x4 x5 z2) ∧ (¬ rz2 = 0 → wp_M_within x2 0 5 z2 (fun rz3 z3 => ((rz3 = 0 → pj_M_statement_27 K x1 x2 x3 x4 x5 z3) ∧ (¬ rz3 = 0 → pj_M_statement_28 K x1 x2 x3 x4 x5 1 z3))))))
def pj_M_end_152 (K : Int32 → Sta → Prop) (y0 : Int32) (z : Sta) : Prop :=
  K y0 z
def pj_M_end_151 (K : Int32 → Sta → Prop) (x2 : Int32) (z : Sta) : Prop :=
  pj_M_end_152 K x2 z
def pj_M_end_73 (K : Int32 → Sta → Prop) (x1 : Int32) (x2 : Int32) (x3 : Int32) (x4 : Int32) (x5 : Int32) (y0 : Int32) (z : Sta) : Prop :=
  ((¬ y0 = 0 → ∀ v9 : Int32, v9 = 4 * x1 → vp_in v9 64 ∧ ∀ z10 : Sta, z10 = zA z 17 (upd (z.2.1 17) v9.toNatClampNeg x2) → ∀ v11 : Int32, v11 = 4 * x1 → ∀ v12 : Int32, v12 = v11 + 1 → vp_in v12 64 ∧ ∀ z13 : Sta, z13 = zA z10 17 (upd (z10.2.1 17) v12.toNatClampNeg x3) → ∀ v14 : Int32, v14 = 4 * x1 → ∀ v15 : Int32, v15 = v14 + 2 → vp_in v15 64 ∧ ∀ z16 : Sta, z16 = zA z13 17 (upd (z13.2.1 17) v15.toNatClampNeg x4) → ∀ v17 : Int32, v17 = 4 * x1 → ∀ v18 : Int32, v18 = v17 + 3 → vp_in v18 64 ∧ ∀ z19 : Sta, z19 = zA z16 17 (upd (z16.2.1 17) v18.toNatClampNeg x5) → ∀ z20 : Sta, z20 = zI z19 10 (0 : Int32) → ((¬ x2 = (2 : Int32) → pj_M_end_151 K x2 z20) ∧ (x2 = (2 : Int32) → ((¬ x4 = x5 → pj_M_end_151 K x2 z20) ∧ (x4 = x5 → pj_M_end_152 K 1 z20))))) ∧ (y0 = 0 → wp_M_fail 1 z (fun rz21 z21 => K rz21 z21)))
def pj_M_end_72 (K : Int32 → Sta → Prop) (x1 : Int32) (x2 : Int32) (x3 : Int32) (x4 : Int32) (x5 : Int32) (z : Sta) : Prop :=
  pj_M_end_73 K x1 x2 x3 x4 x5 0 z
def pj_M_end_68 (K : Int32 → Sta → Prop) (x1 : Int32) (x2 : Int32) (x3 : Int32) (x4 : Int32) (x5 : Int32) (z : Sta) : Prop :=
  pj_M_end_73 K x1 x2 x3 x4 x5 1 z
def pj_M_end_43 (K : Int32 → Sta → Prop) (x1 : Int32) (x2 : Int32) (x3 : Int32) (x4 : Int32) (x5 : Int32) (z : Sta) : Prop :=
  ((x2 < (2 : Int32) → pj_M_end_68 K x1 x2 x3 x4 x5 z) ∧ (¬ x2 < (2 : Int32) → wp_M_within x3 0 5 z (fun rz7 z7 => ((rz7 = 0 → pj_M_end_72 K x1 x2 x3 x4 x5 z7) ∧ (¬ rz7 = 0 → wp_M_within x5 0 15 z7 (fun rz8 z8 => ((rz8 = 0 → pj_M_end_72 K x1 x2 x3 x4 x5 z8) ∧ (¬ rz8 = 0 → pj_M_end_68 K x1 x2 x3 x4 x5 z8))))))))
def wp_M_end (x1 : Int32) (x2 : Int32) (x3 : Int32) (x4 : Int32) (x5 : Int32) (z : Sta) (K : Int32 → Sta → Prop) : Prop :=
  ∀ z1 : Sta, z1 = zI z 7 (0 : Int32) → ∀ v2 : Int32, v2 = z1.1 8 → ∀ v3 : Int32, v3 = v2 - 1 → wp_M_within x1 0 v3 z1 (fun rz4 z4 => ((rz4 = 0 → pj_M_end_72 K x1 x2 x3 x4 x5 z4) ∧ (¬ rz4 = 0 → wp_M_within x2 0 2 z4 (fun rz5 z5 => ((rz5 = 0 → pj_M_end_72 K x1 x2 x3 x4 x5 z5) ∧ (¬ rz5 = 0 → ((x2 = 0 → pj_M_end_43 K x1 x2 x3 x4 x5 z5) ∧ (¬ x2 = 0 → wp_M_within x4 0 15 z5 (fun rz6 z6 => ((rz6 = 0 → pj_M_end_72 K x1 x2 x3 x4 x5 z6) ∧ (¬ rz6 = 0 → pj_M_end_43 K x1 x2 x3 x4 x5 z6)))))))))))
def pj_M_next_74 (K : Int32 → Sta → Prop) (y0 : Int32) (z : Sta) : Prop :=
  K y0 z
def pj_M_next_73 (K : Int32 → Sta → Prop) (z : Sta) : Prop :=
  pj_M_next_74 K (-1) z
def pj_M_next_31 (K : Int32 → Sta → Prop) (y0 : Int32) (z : Sta) : Prop :=
  K y0 z
def wp_M_next (x1 : Int32) (x2 : Int32) (z : Sta) (K : Int32 → Sta → Prop) : Prop :=
  ∀ v1 : Int32, v1 = 4 * x1 → vp_in v1 64 ∧ ∀ v2 : Int32, v2 = z.2.1 17 v1.toNatClampNeg → ((¬ x2 = 0 → ((¬ v2 = (2 : Int32) → pj_M_next_73 K z) ∧ (v2 = (2 : Int32) → ∀ v3 : Int32, v3 = 4 * x1 → ∀ v4 : Int32, v4 = v3 + 3 → vp_in v4 64 ∧ ∀ v5 : Int32, v5 = z.2.1 17 v4.toNatClampNeg → ∀ v6 : Int32, v6 = 4 * x1 → ∀ v7 : Int32, v7 = v6 + 2 → vp_in v7 64 ∧ ∀ v8 : Int32, v8 = z.2.1 17 v7.toNatClampNeg → ((v5 = v8 → pj_M_next_73 K z) ∧ (¬ v5 = v8 → ∀ v9 : Int32, v9 = 4 * x1 → ∀ v10 : Int32, v10 = v9 + 3 → vp_in v10 64 ∧ ∀ v11 : Int32, v11 = z.2.1 17 v10.toNatClampNeg → pj_M_next_74 K v11 z))))) ∧ (x2 = 0 → ((¬ v2 = 0 → ∀ v12 : Int32, v12 = 4 * x1 → ∀ v13 : Int32, v13 = v12 + 2 → vp_in v13 64 ∧ ∀ v14 : Int32, v14 = z.2.1 17 v13.toNatClampNeg → pj_M_next_31 K v14 z) ∧ (v2 = 0 → pj_M_next_31 K (-1) z))))
def pj_M_edge_34 (K : Int32 → Sta → Prop) (y0 : Int32) (z : Sta) : Prop :=
  (y0 = 0 ∨ y0 = 1) ∧ K y0 z
def pj_M_edge_33 (K : Int32 → Sta → Prop) (z : Sta) : Prop :=
  pj_M_edge_34 K 0 z
def pj_M_edge_29 (K : Int32 → Sta → Prop) (z : Sta) : Prop :=
  pj_M_edge_34 K 1 z
def wp_M_edge (x1 : Int32) (x2 : Int32) (z : Sta) (K : Int32 → Sta → Prop) : Prop :=
  vp_in x1 16 ∧ ∀ v1 : Int32, v1 = z.2.1 21 x1.toNatClampNeg → ((v1 = 0 → pj_M_edge_33 K z) ∧ (¬ v1 = 0 → wp_M_next x1 0 z (fun rz2 z2 => ((rz2 = x2 → pj_M_edge_29 K z2) ∧ (¬ rz2 = x2 → wp_M_next x1 1 z2 (fun rz3 z3 => ((¬ rz3 = x2 → pj_M_edge_33 K z3) ∧ (rz3 = x2 → pj_M_edge_29 K z3))))))))
def pj_M_reach_90 (K : Sta → Prop) (R51 : Int32 → Int32 → Int32 → Sta → Prop) (x1 : Int32) (x2 : Int32) (x3 : Int32) (z : Sta) : Prop :=
  ∀ v10 : Int32, v10 = x3 + 1 → R51 x1 x2 v10 z
def pj_M_reach_75 (K : Sta → Prop) (R51 : Int32 → Int32 → Int32 → Sta → Prop) (x1 : Int32) (x2 : Int32) (x3 : Int32) (y0 : Int32) (z : Sta) : Prop :=
  ((y0 < 0 → pj_M_reach_90 K R51 x1 x2 x3 z) ∧ (¬ y0 < 0 → vp_in y0 16 ∧ ∀ z9 : Sta, z9 = zA z 21 (upd (z.2.1 21) y0.toNatClampNeg (vp_nar .boolean (1 : Int32))) → pj_M_reach_90 K R51 x1 x2 x3 z9))
def lp_M_reach_51 (K : Sta → Prop) (R41 : Int32 → Int32 → Sta → Prop) : Nat → Int32 → Int32 → Int32 → Sta → Prop
  | 0, _, _, _, _ => False
  | n + 1, x1, x2, x3, z => (((2 : Int32) ≤ x3 → ∀ v6 : Int32, v6 = x2 + 1 → R41 x1 v6 z) ∧ (¬ (2 : Int32) ≤ x3 → vp_in x2 16 ∧ ∀ v7 : Int32, v7 = z.2.1 21 x2.toNatClampNeg → ((v7 = 0 → pj_M_reach_75 K (fun x1 x2 x3 z => lp_M_reach_51 K R41 n x1 x2 x3 z) x1 x2 x3 (-1) z) ∧ (¬ v7 = 0 → wp_M_next x2 x3 z (fun rz8 z8 => pj_M_reach_75 K (fun x1 x2 x3 z => lp_M_reach_51 K R41 n x1 x2 x3 z) x1 x2 x3 rz8 z8)))))
def lp_M_reach_41 (K : Sta → Prop) (R31 : Int32 → Sta → Prop) : Nat → Int32 → Int32 → Sta → Prop
  | 0, _, _, _ => False
  | n + 1, x1, x2, z => ∀ v4 : Int32, v4 = z.1 8 → ((v4 ≤ x2 → ∀ v5 : Int32, v5 = x1 + 1 → R31 v5 z) ∧ (¬ v4 ≤ x2 → ∃ n51 : Nat, lp_M_reach_51 K (fun x1 x2 z => lp_M_reach_41 K R31 n x1 x2 z) n51 x1 x2 0 z))
def lp_M_reach_31 (K : Sta → Prop) : Nat → Int32 → Sta → Prop
  | 0, _, _ => False
  | n + 1, x1, z => ∀ v3 : Int32, v3 = z.1 8 → ((v3 ≤ x1 → K z) ∧ (¬ v3 ≤ x1 → ∃ n41 : Nat, lp_M_reach_41 K (fun x1 z => lp_M_reach_31 K n x1 z) n41 x1 0 z))
def pj_M_reach_22 (K : Sta → Prop) (R2 : Int32 → Sta → Prop) (x1 : Int32) (y0 : Int32) (y1 : Int32) (z : Sta) : Prop :=
  vp_in y1 16 ∧ ∀ z1 : Sta, z1 = zA z 21 (upd (z.2.1 21) y1.toNatClampNeg (vp_nar .boolean y0)) → ∀ v2 : Int32, v2 = x1 + 1 → R2 v2 z1
def lp_M_reach_2 (K : Sta → Prop) : Nat → Int32 → Sta → Prop
  | 0, _, _ => False
  | n + 1, x1, z => (((16 : Int32) ≤ x1 → ∃ n31 : Nat, lp_M_reach_31 K n31 0 z) ∧ (¬ (16 : Int32) ≤ x1 → ((¬ x1 = 0 → pj_M_reach_22 K (fun x1 z => lp_M_reach_2 K n x1 z) x1 0 x1 z) ∧ (x1 = 0 → pj_M_reach_22 K (fun x1 z => lp_M_reach_2 K n x1 z) x1 1 x1 z))))
def wp_M_reach (z : Sta) (K : Sta → Prop) : Prop :=
  ∃ n2 : Nat, lp_M_reach_2 K n2 0 z
def pj_M_whole_47 (K : Int32 → Sta → Prop) (R4 : Int32 → Int32 → Sta → Prop) (x2 : Int32) (y0 : Int32) (z : Sta) : Prop :=
  ∀ v6 : Int32, v6 = x2 + 1 → R4 y0 v6 z
def pj_M_whole_46 (K : Int32 → Sta → Prop) (R4 : Int32 → Int32 → Sta → Prop) (x2 : Int32) (z : Sta) : Prop :=
  pj_M_whole_47 K R4 x2 0 z
def lp_M_whole_4 (K : Int32 → Sta → Prop) : Nat → Int32 → Int32 → Sta → Prop
  | 0, _, _, _ => False
  | n + 1, x1, x2, z => ∀ v1 : Int32, v1 = z.1 8 → ((v1 ≤ x2 → (x1 = 0 ∨ x1 = 1) ∧ K x1 z) ∧ (¬ v1 ≤ x2 → ((x1 = 0 → pj_M_whole_46 K (fun x1 x2 z => lp_M_whole_4 K n x1 x2 z) x2 z) ∧ (¬ x1 = 0 → wp_M_next x2 0 z (fun rz2 z2 => ∀ v3 : Int32, v3 = z2.1 8 → ((v3 ≤ rz2 → pj_M_whole_46 K (fun x1 x2 z => lp_M_whole_4 K n x1 x2 z) x2 z2) ∧ (¬ v3 ≤ rz2 → wp_M_next x2 1 z2 (fun rz4 z4 => ∀ v5 : Int32, v5 = z4.1 8 → ((v5 ≤ rz4 → pj_M_whole_46 K (fun x1 x2 z => lp_M_whole_4 K n x1 x2 z) x2 z4) ∧ (¬ v5 ≤ rz4 → pj_M_whole_47 K (fun x1 x2 z => lp_M_whole_4 K n x1 x2 z) x2 1 z4))))))))))
def wp_M_whole (z : Sta) (K : Int32 → Sta → Prop) : Prop :=
  ∃ n4 : Nat, lp_M_whole_4 K n4 1 0 z
def pj_M_gives_49 (K : Int32 → Sta → Prop) (y0 : Int32) (z : Sta) : Prop :=
  (y0 = 0 ∨ y0 = 1) ∧ K y0 z
def pj_M_gives_48 (K : Int32 → Sta → Prop) (z : Sta) : Prop :=
  pj_M_gives_49 K 0 z
def pj_M_gives_44 (K : Int32 → Sta → Prop) (z : Sta) : Prop :=
  pj_M_gives_49 K 1 z
def wp_M_gives (x1 : Int32) (x2 : Int32) (z : Sta) (K : Int32 → Sta → Prop) : Prop :=
  vp_in x1 480 ∧ ∀ v1 : Int32, v1 = z.2.1 16 x1.toNatClampNeg → (((3 : Int32) ≤ v1 → pj_M_gives_48 K z) ∧ (¬ (3 : Int32) ≤ v1 → ∀ v2 : Int32, v2 = x1 + 1 → vp_in v2 480 ∧ ∀ v3 : Int32, v3 = z.2.1 16 v2.toNatClampNeg → vp_in x2 24 ∧ ∀ v4 : Int32, v4 = z.2.1 18 x2.toNatClampNeg → ((v3 = v4 → pj_M_gives_44 K z) ∧ (¬ v3 = v4 → ∀ v5 : Int32, v5 = x1 + 1 → vp_in v5 480 ∧ ∀ v6 : Int32, v6 = z.2.1 16 v5.toNatClampNeg → vp_in x2 24 ∧ ∀ v7 : Int32, v7 = z.2.1 20 x2.toNatClampNeg → ((¬ v6 = v7 → pj_M_gives_48 K z) ∧ (v6 = v7 → pj_M_gives_44 K z))))))
def pj_M_look_173 (K : Sta → Prop) (R23 : Int32 → Int32 → Int32 → Sta → Prop) (x1 : Int32) (x2 : Int32) (x3 : Int32) (y0 : Int32) (y1 : Int32) (z : Sta) : Prop :=
  vp_in y1 16 ∧ ∀ z18 : Sta, z18 = zA z 24 (upd (z.2.1 24) y1.toNatClampNeg (vp_nar .boolean y0)) → ∀ v19 : Int32, v19 = x3 + 1 → R23 x1 x2 v19 z18
def pj_M_look_168 (K : Sta → Prop) (R23 : Int32 → Int32 → Int32 → Sta → Prop) (x1 : Int32) (x2 : Int32) (x3 : Int32) (y0 : Int32) (z : Sta) : Prop :=
  pj_M_look_173 K R23 x1 x2 x3 1 y0 z
def pj_M_look_143 (K : Sta → Prop) (R23 : Int32 → Int32 → Int32 → Sta → Prop) (x1 : Int32) (x2 : Int32) (x3 : Int32) (x4 : Int32) (y0 : Int32) (y1 : Int32) (z : Sta) : Prop :=
  vp_in y1 16 ∧ ∀ z15 : Sta, z15 = zA z 26 (upd (z.2.1 26) y1.toNatClampNeg (vp_nar .boolean y0)) → vp_in x1 16 ∧ ∀ v16 : Int32, v16 = z15.2.1 24 x1.toNatClampNeg → ((¬ v16 = 0 → pj_M_look_168 K R23 x1 x2 x3 x1 z15) ∧ (v16 = 0 → wp_M_gives x4 x2 z15 (fun rz17 z17 => ((rz17 = 0 → pj_M_look_173 K R23 x1 x2 x3 0 x1 z17) ∧ (¬ rz17 = 0 → pj_M_look_168 K R23 x1 x2 x3 x1 z17)))))
def pj_M_look_142 (K : Sta → Prop) (R23 : Int32 → Int32 → Int32 → Sta → Prop) (x1 : Int32) (x2 : Int32) (x3 : Int32) (x4 : Int32) (y0 : Int32) (z : Sta) : Prop :=
  pj_M_look_143 K R23 x1 x2 x3 x4 0 y0 z
def pj_M_look_128 (K : Sta → Prop) (R23 : Int32 → Int32 → Int32 → Sta → Prop) (x1 : Int32) (x2 : Int32) (x3 : Int32) (x4 : Int32) (y0 : Int32) (z : Sta) : Prop :=
  wp_M_gives x4 x2 z (fun rz20 z20 => ((¬ rz20 = 0 → pj_M_look_142 K R23 x1 x2 x3 x4 y0 z20) ∧ (rz20 = 0 → pj_M_look_143 K R23 x1 x2 x3 x4 1 y0 z20)))
def pj_M_look_108 (K : Sta → Prop) (R23 : Int32 → Int32 → Int32 → Sta → Prop) (x1 : Int32) (x2 : Int32) (x3 : Int32) (x4 : Int32) (x5 : Int32) (y0 : Int32) (y1 : Int32) (z : Sta) : Prop :=
  vp_in y1 16 ∧ ∀ z13 : Sta, z13 = zA z 25 (upd (z.2.1 25) y1.toNatClampNeg (vp_nar .boolean y0)) → vp_in x1 16 ∧ ∀ v14 : Int32, v14 = z13.2.1 26 x1.toNatClampNeg → ((¬ v14 = 0 → pj_M_look_128 K R23 x1 x2 x3 x4 x1 z13) ∧ (v14 = 0 → ((x5 = 0 → pj_M_look_142 K R23 x1 x2 x3 x4 x1 z13) ∧ (¬ x5 = 0 → pj_M_look_128 K R23 x1 x2 x3 x4 x1 z13))))
def pj_M_look_107 (K : Sta → Prop) (R23 : Int32 → Int32 → Int32 → Sta → Prop) (x1 : Int32) (x2 : Int32) (x3 : Int32) (x4 : Int32) (x5 : Int32) (y0 : Int32) (z : Sta) : Prop :=
  pj_M_look_108 K R23 x1 x2 x3 x4 x5 0 y0 z
def pj_M_look_103 (K : Sta → Prop) (R23 : Int32 → Int32 → Int32 → Sta → Prop) (x1 : Int32) (x2 : Int32) (x3 : Int32) (x4 : Int32) (x5 : Int32) (y0 : Int32) (z : Sta) : Prop :=
  pj_M_look_108 K R23 x1 x2 x3 x4 x5 1 y0 z
def pj_M_look_73 (K : Sta → Prop) (R23 : Int32 → Int32 → Int32 → Sta → Prop) (x1 : Int32) (x2 : Int32) (x3 : Int32) (x4 : Int32) (y0 : Int32) (z : Sta) : Prop :=
  vp_in x1 16 ∧ ∀ v11 : Int32, v11 = z.2.1 25 x1.toNatClampNeg → ((¬ v11 = 0 → pj_M_look_103 K R23 x1 x2 x3 x4 y0 x1 z) ∧ (v11 = 0 → ((y0 = 0 → pj_M_look_107 K R23 x1 x2 x3 x4 y0 x1 z) ∧ (¬ y0 = 0 → vp_in x1 16 ∧ ∀ v12 : Int32, v12 = z.2.1 24 x1.toNatClampNeg → ((¬ v12 = 0 → pj_M_look_107 K R23 x1 x2 x3 x4 y0 x1 z) ∧ (v12 = 0 → pj_M_look_103 K R23 x1 x2 x3 x4 y0 x1 z))))))
def pj_M_look_72 (K : Sta → Prop) (R23 : Int32 → Int32 → Int32 → Sta → Prop) (x1 : Int32) (x2 : Int32) (x3 : Int32) (x4 : Int32) (z : Sta) : Prop :=
  pj_M_look_73 K R23 x1 x2 x3 x4 0 z
def lp_M_look_23 (K : Sta → Prop) : Nat → Int32 → Int32 → Int32 → Sta → Prop
  | 0, _, _, _, _ => False
  | n + 1, x1, x2, x3, z => vp_in x1 16 ∧ ∀ v4 : Int32, v4 = z.2.1 15 x1.toNatClampNeg → ((v4 ≤ x3 → K z) ∧ (¬ v4 ≤ x3 → ∀ v5 : Int32, v5 = 30 * x1 → ∀ v6 : Int32, v6 = 6 * x3 → ∀ v7 : Int32, v7 = v5 + v6 → vp_in v7 480 ∧ ∀ v8 : Int32, v8 = z.2.1 16 v7.toNatClampNeg → ((¬ v8 = (2 : Int32) → pj_M_look_72 K (fun x1 x2 x3 z => lp_M_look_23 K n x1 x2 x3 z) x1 x2 x3 v7 z) ∧ (v8 = (2 : Int32) → ∀ v9 : Int32, v9 = v7 + 5 → vp_in v9 480 ∧ ∀ v10 : Int32, v10 = z.2.1 16 v9.toNatClampNeg → ((¬ v10 = x2 → pj_M_look_72 K (fun x1 x2 x3 z => lp_M_look_23 K n x1 x2 x3 z) x1 x2 x3 v7 z) ∧ (v10 = x2 → pj_M_look_73 K (fun x1 x2 x3 z => lp_M_look_23 K n x1 x2 x3 z) x1 x2 x3 v7 1 z))))))
def wp_M_look (x1 : Int32) (x2 : Int32) (z : Sta) (K : Sta → Prop) : Prop :=
  vp_in x1 16 ∧ ∀ z1 : Sta, z1 = zA z 24 (upd (z.2.1 24) x1.toNatClampNeg (vp_nar .boolean (0 : Int32))) → vp_in x1 16 ∧ ∀ z2 : Sta, z2 = zA z1 25 (upd (z1.2.1 25) x1.toNatClampNeg (vp_nar .boolean (0 : Int32))) → vp_in x1 16 ∧ ∀ z3 : Sta, z3 = zA z2 26 (upd (z2.2.1 26) x1.toNatClampNeg (vp_nar .boolean (0 : Int32))) → ∃ n23 : Nat, lp_M_look_23 K n23 x1 x2 0 z3
def pj_M_thereBefore_47 (K : Int32 → Sta → Prop) (R12 : Int32 → Int32 → Int32 → Sta → Prop) (x1 : Int32) (x3 : Int32) (y0 : Int32) (z : Sta) : Prop :=
  ∀ v4 : Int32, v4 = x3 + 1 → R12 x1 y0 v4 z
def pj_M_thereBefore_46 (K : Int32 → Sta → Prop) (R12 : Int32 → Int32 → Int32 → Sta → Prop) (x1 : Int32) (x3 : Int32) (z : Sta) : Prop :=
  pj_M_thereBefore_47 K R12 x1 x3 0 z
def pj_M_thereBefore_42 (K : Int32 → Sta → Prop) (R12 : Int32 → Int32 → Int32 → Sta → Prop) (x1 : Int32) (x3 : Int32) (z : Sta) : Prop :=
  pj_M_thereBefore_47 K R12 x1 x3 1 z
def lp_M_thereBefore_12 (K : Int32 → Sta → Prop) : Nat → Int32 → Int32 → Int32 → Sta → Prop
  | 0, _, _, _, _ => False
  | n + 1, x1, x2, x3, z => ∀ v1 : Int32, v1 = z.1 8 → ((v1 ≤ x3 → (x2 = 0 ∨ x2 = 1) ∧ K x2 z) ∧ (¬ v1 ≤ x3 → ((x2 = 0 → pj_M_thereBefore_46 K (fun x1 x2 x3 z => lp_M_thereBefore_12 K n x1 x2 x3 z) x1 x3 z) ∧ (¬ x2 = 0 → wp_M_edge x3 x1 z (fun rz2 z2 => ((rz2 = 0 → pj_M_thereBefore_42 K (fun x1 x2 x3 z => lp_M_thereBefore_12 K n x1 x2 x3 z) x1 x3 z2) ∧ (¬ rz2 = 0 → vp_in x3 16 ∧ ∀ v3 : Int32, v3 = z2.2.1 28 x3.toNatClampNeg → ((v3 = 0 → pj_M_thereBefore_46 K (fun x1 x2 x3 z => lp_M_thereBefore_12 K n x1 x2 x3 z) x1 x3 z2) ∧ (¬ v3 = 0 → pj_M_thereBefore_42 K (fun x1 x2 x3 z => lp_M_thereBefore_12 K n x1 x2 x3 z) x1 x3 z2)))))))))
def pj_M_thereBefore_9 (K : Int32 → Sta → Prop) (x1 : Int32) (y0 : Int32) (z : Sta) : Prop :=
  ∃ n12 : Nat, lp_M_thereBefore_12 K n12 x1 y0 0 z
def wp_M_thereBefore (x1 : Int32) (z : Sta) (K : Int32 → Sta → Prop) : Prop :=
  ((x1 ≤ 0 → pj_M_thereBefore_9 K x1 0 z) ∧ (¬ x1 ≤ 0 → pj_M_thereBefore_9 K x1 1 z))
def pj_M_wantedBehind_81 (K : Int32 → Sta → Prop) (y0 : Int32) (z : Sta) : Prop :=
  (y0 = 0 ∨ y0 = 1) ∧ K y0 z
def pj_M_wantedBehind_80 (K : Int32 → Sta → Prop) (z : Sta) : Prop :=
  pj_M_wantedBehind_81 K 0 z
def pj_M_wantedBehind_61 (K : Int32 → Sta → Prop) (R7 : Int32 → Int32 → Int32 → Int32 → Sta → Prop) (x1 : Int32) (x2 : Int32) (x4 : Int32) (y0 : Int32) (z : Sta) : Prop :=
  ∀ v3 : Int32, v3 = x4 + 1 → R7 x1 x2 y0 v3 z
def pj_M_wantedBehind_60 (K : Int32 → Sta → Prop) (R7 : Int32 → Int32 → Int32 → Int32 → Sta → Prop) (x1 : Int32) (x2 : Int32) (x4 : Int32) (z : Sta) : Prop :=
  pj_M_wantedBehind_61 K R7 x1 x2 x4 0 z
def pj_M_wantedBehind_56 (K : Int32 → Sta → Prop) (R7 : Int32 → Int32 → Int32 → Int32 → Sta → Prop) (x1 : Int32) (x2 : Int32) (x4 : Int32) (z : Sta) : Prop :=
  pj_M_wantedBehind_61 K R7 x1 x2 x4 1 z
def pj_M_wantedBehind_36 (K : Int32 → Sta → Prop) (R7 : Int32 → Int32 → Int32 → Int32 → Sta → Prop) (x1 : Int32) (x3 : Int32) (x4 : Int32) (x5 : Int32) (y0 : Int32) (z : Sta) : Prop :=
  ((x3 = 0 → pj_M_wantedBehind_60 K R7 x1 y0 x4 z) ∧ (¬ x3 = 0 → ((x5 < 0 → pj_M_wantedBehind_56 K R7 x1 y0 x4 z) ∧ (¬ x5 < 0 → vp_in x5 16 ∧ ∀ v2 : Int32, v2 = z.2.1 29 x5.toNatClampNeg → ((v2 = 0 → pj_M_wantedBehind_60 K R7 x1 y0 x4 z) ∧ (¬ v2 = 0 → pj_M_wantedBehind_56 K R7 x1 y0 x4 z))))))
def pj_M_wantedBehind_31 (K : Int32 → Sta → Prop) (R7 : Int32 → Int32 → Int32 → Int32 → Sta → Prop) (x1 : Int32) (x3 : Int32) (x4 : Int32) (x5 : Int32) (z : Sta) : Prop :=
  pj_M_wantedBehind_36 K R7 x1 x3 x4 x5 1 z
def lp_M_wantedBehind_7 (K : Int32 → Sta → Prop) : Nat → Int32 → Int32 → Int32 → Int32 → Sta → Prop
  | 0, _, _, _, _, _ => False
  | n + 1, x1, x2, x3, x4, z => (((2 : Int32) ≤ x4 → ((x2 = 0 → pj_M_wantedBehind_80 K z) ∧ (¬ x2 = 0 → ((x3 = 0 → pj_M_wantedBehind_80 K z) ∧ (¬ x3 = 0 → pj_M_wantedBehind_81 K 1 z))))) ∧ (¬ (2 : Int32) ≤ x4 → wp_M_next x1 x4 z (fun rz1 z1 => ((¬ x2 = 0 → pj_M_wantedBehind_31 K (fun x1 x2 x3 x4 z => lp_M_wantedBehind_7 K n x1 x2 x3 x4 z) x1 x3 x4 rz1 z1) ∧ (x2 = 0 → ((rz1 < 0 → pj_M_wantedBehind_36 K (fun x1 x2 x3 x4 z => lp_M_wantedBehind_7 K n x1 x2 x3 x4 z) x1 x3 x4 rz1 0 z1) ∧ (¬ rz1 < 0 → pj_M_wantedBehind_31 K (fun x1 x2 x3 x4 z => lp_M_wantedBehind_7 K n x1 x2 x3 x4 z) x1 x3 x4 rz1 z1)))))))
def wp_M_wantedBehind (x1 : Int32) (z : Sta) (K : Int32 → Sta → Prop) : Prop :=
  ∃ n7 : Nat, lp_M_wantedBehind_7 K n7 x1 0 1 0 z
def pj_M_earliest_44 (K : Int32 → Sta → Prop) (y0 : Int32) (z : Sta) : Prop :=
  (y0 = 0 ∨ y0 = 1) ∧ K y0 z
def pj_M_earliest_43 (K : Int32 → Sta → Prop) (z : Sta) : Prop :=
  pj_M_earliest_44 K 0 z
def pj_M_earliest_39 (K : Int32 → Sta → Prop) (z : Sta) : Prop :=
  pj_M_earliest_44 K 1 z
def wp_M_earliest (x1 : Int32) (x2 : Int32) (z : Sta) (K : Int32 → Sta → Prop) : Prop :=
  vp_in x2 16 ∧ ∀ v1 : Int32, v1 = z.2.1 29 x2.toNatClampNeg → ((v1 = 0 → pj_M_earliest_43 K z) ∧ (¬ v1 = 0 → ((x1 < 0 → pj_M_earliest_39 K z) ∧ (¬ x1 < 0 → vp_in x1 16 ∧ ∀ v2 : Int32, v2 = z.2.1 28 x1.toNatClampNeg → ((¬ v2 = 0 → pj_M_earliest_43 K z) ∧ (v2 = 0 → vp_in x1 16 ∧ ∀ v3 : Int32, v3 = z.2.1 24 x1.toNatClampNeg → ((¬ v3 = 0 → pj_M_earliest_39 K z) ∧ (v3 = 0 → wp_M_wantedBehind x1 z (fun rz4 z4 => ((¬ rz4 = 0 → pj_M_earliest_43 K z4) ∧ (rz4 = 0 → pj_M_earliest_39 K z4)))))))))))
def pj_M_laterOn_36 (K : Int32 → Sta → Prop) (y0 : Int32) (z : Sta) : Prop :=
  (y0 = 0 ∨ y0 = 1) ∧ K y0 z
def pj_M_laterOn_35 (K : Int32 → Sta → Prop) (z : Sta) : Prop :=
  pj_M_laterOn_36 K 0 z
def pj_M_laterOn_31 (K : Int32 → Sta → Prop) (z : Sta) : Prop :=
  pj_M_laterOn_36 K 1 z
def wp_M_laterOn (x1 : Int32) (x2 : Int32) (z : Sta) (K : Int32 → Sta → Prop) : Prop :=
  wp_M_earliest x1 x2 z (fun rz1 z1 => ((¬ rz1 = 0 → pj_M_laterOn_31 K z1) ∧ (rz1 = 0 → ((x1 < 0 → pj_M_laterOn_35 K z1) ∧ (¬ x1 < 0 → vp_in x1 16 ∧ ∀ v2 : Int32, v2 = z1.2.1 31 x1.toNatClampNeg → ((v2 = 0 → pj_M_laterOn_35 K z1) ∧ (¬ v2 = 0 → vp_in x1 16 ∧ ∀ v3 : Int32, v3 = z1.2.1 25 x1.toNatClampNeg → ((¬ v3 = 0 → pj_M_laterOn_35 K z1) ∧ (v3 = 0 → pj_M_laterOn_31 K z1)))))))))
def pj_M_lateBefore_56 (K : Int32 → Sta → Prop) (R21 : Int32 → Int32 → Int32 → Sta → Prop) (x1 : Int32) (x3 : Int32) (y0 : Int32) (z : Sta) : Prop :=
  ∀ v5 : Int32, v5 = x3 + 1 → R21 x1 y0 v5 z
def pj_M_lateBefore_55 (K : Int32 → Sta → Prop) (R21 : Int32 → Int32 → Int32 → Sta → Prop) (x1 : Int32) (x3 : Int32) (z : Sta) : Prop :=
  pj_M_lateBefore_56 K R21 x1 x3 0 z
def pj_M_lateBefore_51 (K : Int32 → Sta → Prop) (R21 : Int32 → Int32 → Int32 → Sta → Prop) (x1 : Int32) (x3 : Int32) (z : Sta) : Prop :=
  pj_M_lateBefore_56 K R21 x1 x3 1 z
def lp_M_lateBefore_21 (K : Int32 → Sta → Prop) : Nat → Int32 → Int32 → Int32 → Sta → Prop
  | 0, _, _, _, _ => False
  | n + 1, x1, x2, x3, z => ∀ v2 : Int32, v2 = z.1 8 → ((v2 ≤ x3 → (x2 = 0 ∨ x2 = 1) ∧ K x2 z) ∧ (¬ v2 ≤ x3 → ((x2 = 0 → pj_M_lateBefore_55 K (fun x1 x2 x3 z => lp_M_lateBefore_21 K n x1 x2 x3 z) x1 x3 z) ∧ (¬ x2 = 0 → wp_M_edge x3 x1 z (fun rz3 z3 => ((rz3 = 0 → pj_M_lateBefore_51 K (fun x1 x2 x3 z => lp_M_lateBefore_21 K n x1 x2 x3 z) x1 x3 z3) ∧ (¬ rz3 = 0 → wp_M_laterOn x3 x1 z3 (fun rz4 z4 => ((rz4 = 0 → pj_M_lateBefore_55 K (fun x1 x2 x3 z => lp_M_lateBefore_21 K n x1 x2 x3 z) x1 x3 z4) ∧ (¬ rz4 = 0 → pj_M_lateBefore_51 K (fun x1 x2 x3 z => lp_M_lateBefore_21 K n x1 x2 x3 z) x1 x3 z4))))))))))
def pj_M_lateBefore_18 (K : Int32 → Sta → Prop) (x1 : Int32) (y0 : Int32) (z : Sta) : Prop :=
  ∃ n21 : Nat, lp_M_lateBefore_21 K n21 x1 y0 0 z
def pj_M_lateBefore_13 (K : Int32 → Sta → Prop) (x1 : Int32) (z : Sta) : Prop :=
  pj_M_lateBefore_18 K x1 1 z
def wp_M_lateBefore (x1 : Int32) (z : Sta) (K : Int32 → Sta → Prop) : Prop :=
  ((0 < x1 → pj_M_lateBefore_13 K x1 z) ∧ (¬ 0 < x1 → wp_M_laterOn (-1) 0 z (fun rz1 z1 => ((rz1 = 0 → pj_M_lateBefore_18 K x1 0 z1) ∧ (¬ rz1 = 0 → pj_M_lateBefore_13 K x1 z1)))))
def pj_M_settle_221 (K : Sta → Prop) (R10 : Int32 → Int32 → Int32 → Sta → Prop) (x1 : Int32) (x2 : Int32) (x3 : Int32) (z : Sta) : Prop :=
  ∀ v16 : Int32, v16 = x3 + 1 → R10 x1 x2 v16 z
def pj_M_settle_208 (K : Sta → Prop) (R10 : Int32 → Int32 → Int32 → Sta → Prop) (x1 : Int32) (x2 : Int32) (x3 : Int32) (x5 : Int32) (z : Sta) : Prop :=
  ((¬ x1 = (2 : Int32) → pj_M_settle_221 K R10 x1 x2 x3 z) ∧ (x1 = (2 : Int32) → vp_in x3 16 ∧ ∀ z15 : Sta, z15 = zA z 31 (upd (z.2.1 31) x3.toNatClampNeg (vp_nar .boolean x5)) → pj_M_settle_221 K R10 x1 x2 x3 z15))
def pj_M_settle_195 (K : Sta → Prop) (R10 : Int32 → Int32 → Int32 → Sta → Prop) (x1 : Int32) (x2 : Int32) (x3 : Int32) (x5 : Int32) (z : Sta) : Prop :=
  ((¬ x1 = (1 : Int32) → pj_M_settle_208 K R10 x1 x2 x3 x5 z) ∧ (x1 = (1 : Int32) → vp_in x3 16 ∧ ∀ z14 : Sta, z14 = zA z 29 (upd (z.2.1 29) x3.toNatClampNeg (vp_nar .boolean x5)) → pj_M_settle_208 K R10 x1 x2 x3 x5 z14))
def pj_M_settle_182 (K : Sta → Prop) (R10 : Int32 → Int32 → Int32 → Sta → Prop) (x1 : Int32) (x3 : Int32) (x5 : Int32) (y0 : Int32) (z : Sta) : Prop :=
  ((¬ x1 = 0 → pj_M_settle_195 K R10 x1 y0 x3 x5 z) ∧ (x1 = 0 → vp_in x3 16 ∧ ∀ z13 : Sta, z13 = zA z 28 (upd (z.2.1 28) x3.toNatClampNeg (vp_nar .boolean x5)) → pj_M_settle_195 K R10 x1 y0 x3 x5 z13))
def pj_M_settle_181 (K : Sta → Prop) (R10 : Int32 → Int32 → Int32 → Sta → Prop) (x1 : Int32) (x3 : Int32) (x5 : Int32) (z : Sta) : Prop :=
  pj_M_settle_182 K R10 x1 x3 x5 0 z
def pj_M_settle_177 (K : Sta → Prop) (R10 : Int32 → Int32 → Int32 → Sta → Prop) (x1 : Int32) (x3 : Int32) (x5 : Int32) (z : Sta) : Prop :=
  pj_M_settle_182 K R10 x1 x3 x5 1 z
def pj_M_settle_161 (K : Sta → Prop) (R10 : Int32 → Int32 → Int32 → Sta → Prop) (x1 : Int32) (x2 : Int32) (x3 : Int32) (x4 : Int32) (y0 : Int32) (z : Sta) : Prop :=
  ((¬ x2 = 0 → pj_M_settle_177 K R10 x1 x3 y0 z) ∧ (x2 = 0 → ((x4 = 0 → pj_M_settle_181 K R10 x1 x3 y0 z) ∧ (¬ x4 = 0 → ((¬ y0 = 0 → pj_M_settle_181 K R10 x1 x3 y0 z) ∧ (y0 = 0 → pj_M_settle_177 K R10 x1 x3 y0 z))))))
def pj_M_settle_160 (K : Sta → Prop) (R10 : Int32 → Int32 → Int32 → Sta → Prop) (x1 : Int32) (x2 : Int32) (x3 : Int32) (x4 : Int32) (z : Sta) : Prop :=
  pj_M_settle_161 K R10 x1 x2 x3 x4 0 z
def pj_M_settle_156 (K : Sta → Prop) (R10 : Int32 → Int32 → Int32 → Sta → Prop) (x1 : Int32) (x2 : Int32) (x3 : Int32) (x4 : Int32) (z : Sta) : Prop :=
  pj_M_settle_161 K R10 x1 x2 x3 x4 1 z
def pj_M_settle_74 (K : Sta → Prop) (R10 : Int32 → Int32 → Int32 → Sta → Prop) (x1 : Int32) (x2 : Int32) (x3 : Int32) (y0 : Int32) (z : Sta) : Prop :=
  ((y0 = 0 → pj_M_settle_160 K R10 x1 x2 x3 y0 z) ∧ (¬ y0 = 0 → ((¬ x1 = 0 → ((¬ x1 = (1 : Int32) → wp_M_lateBefore x3 z (fun rz6 z6 => ((rz6 = 0 → pj_M_settle_160 K R10 x1 x2 x3 y0 z6) ∧ (¬ rz6 = 0 → pj_M_settle_156 K R10 x1 x2 x3 y0 z6)))) ∧ (x1 = (1 : Int32) → vp_in x3 16 ∧ ∀ v7 : Int32, v7 = z.2.1 25 x3.toNatClampNeg → ((¬ v7 = 0 → pj_M_settle_156 K R10 x1 x2 x3 y0 z) ∧ (v7 = 0 → wp_M_wantedBehind x3 z (fun rz8 z8 => ((rz8 = 0 → pj_M_settle_160 K R10 x1 x2 x3 y0 z8) ∧ (¬ rz8 = 0 → vp_in x3 16 ∧ ∀ v9 : Int32, v9 = z8.2.1 24 x3.toNatClampNeg → ((¬ v9 = 0 → pj_M_settle_160 K R10 x1 x2 x3 y0 z8) ∧ (v9 = 0 → pj_M_settle_156 K R10 x1 x2 x3 y0 z8)))))))))) ∧ (x1 = 0 → vp_in x3 16 ∧ ∀ v10 : Int32, v10 = z.2.1 26 x3.toNatClampNeg → ((¬ v10 = 0 → pj_M_settle_156 K R10 x1 x2 x3 y0 z) ∧ (v10 = 0 → wp_M_thereBefore x3 z (fun rz11 z11 => ((rz11 = 0 → pj_M_settle_160 K R10 x1 x2 x3 y0 z11) ∧ (¬ rz11 = 0 → vp_in x3 16 ∧ ∀ v12 : Int32, v12 = z11.2.1 24 x3.toNatClampNeg → ((¬ v12 = 0 → pj_M_settle_160 K R10 x1 x2 x3 y0 z11) ∧ (v12 = 0 → pj_M_settle_156 K R10 x1 x2 x3 y0 z11)))))))))))
def pj_M_settle_73 (K : Sta → Prop) (R10 : Int32 → Int32 → Int32 → Sta → Prop) (x1 : Int32) (x2 : Int32) (x3 : Int32) (z : Sta) : Prop :=
  pj_M_settle_74 K R10 x1 x2 x3 0 z
def pj_M_settle_69 (K : Sta → Prop) (R10 : Int32 → Int32 → Int32 → Sta → Prop) (x1 : Int32) (x2 : Int32) (x3 : Int32) (z : Sta) : Prop :=
  pj_M_settle_74 K R10 x1 x2 x3 1 z
def lp_M_settle_10 (K : Sta → Prop) (R2 : Int32 → Int32 → Sta → Prop) : Nat → Int32 → Int32 → Int32 → Sta → Prop
  | 0, _, _, _, _ => False
  | n + 1, x1, x2, x3, z => ∀ v1 : Int32, v1 = z.1 8 → ((v1 ≤ x3 → R2 x1 x2 z) ∧ (¬ v1 ≤ x3 → vp_in x3 16 ∧ ∀ v2 : Int32, v2 = z.2.1 21 x3.toNatClampNeg → ((v2 = 0 → pj_M_settle_73 K (fun x1 x2 x3 z => lp_M_settle_10 K R2 n x1 x2 x3 z) x1 x2 x3 z) ∧ (¬ v2 = 0 → ((¬ x1 = 0 → ((¬ x1 = (1 : Int32) → vp_in x3 16 ∧ ∀ v3 : Int32, v3 = z.2.1 31 x3.toNatClampNeg → ((v3 = 0 → pj_M_settle_73 K (fun x1 x2 x3 z => lp_M_settle_10 K R2 n x1 x2 x3 z) x1 x2 x3 z) ∧ (¬ v3 = 0 → pj_M_settle_69 K (fun x1 x2 x3 z => lp_M_settle_10 K R2 n x1 x2 x3 z) x1 x2 x3 z))) ∧ (x1 = (1 : Int32) → vp_in x3 16 ∧ ∀ v4 : Int32, v4 = z.2.1 29 x3.toNatClampNeg → ((v4 = 0 → pj_M_settle_73 K (fun x1 x2 x3 z => lp_M_settle_10 K R2 n x1 x2 x3 z) x1 x2 x3 z) ∧ (¬ v4 = 0 → pj_M_settle_69 K (fun x1 x2 x3 z => lp_M_settle_10 K R2 n x1 x2 x3 z) x1 x2 x3 z))))) ∧ (x1 = 0 → vp_in x3 16 ∧ ∀ v5 : Int32, v5 = z.2.1 28 x3.toNatClampNeg → ((v5 = 0 → pj_M_settle_73 K (fun x1 x2 x3 z => lp_M_settle_10 K R2 n x1 x2 x3 z) x1 x2 x3 z) ∧ (¬ v5 = 0 → pj_M_settle_69 K (fun x1 x2 x3 z => lp_M_settle_10 K R2 n x1 x2 x3 z) x1 x2 x3 z))))))))
def lp_M_settle_2 (K : Sta → Prop) : Nat → Int32 → Int32 → Sta → Prop
  | 0, _, _, _ => False
  | n + 1, x1, x2, z => ((x2 = 0 → K z) ∧ (¬ x2 = 0 → ∃ n10 : Nat, lp_M_settle_10 K (fun x1 x2 z => lp_M_settle_2 K n x1 x2 z) n10 x1 0 0 z))
def wp_M_settle (x1 : Int32) (z : Sta) (K : Sta → Prop) : Prop :=
  ∃ n2 : Nat, lp_M_settle_2 K n2 x1 1 z
def pj_M_mark_24 (K : Sta → Prop) (y0 : Int32) (y1 : Int32) (y2 : Int32) (z : Sta) : Prop :=
  ∀ v5 : Int32, v5 = y1 ||| y0 → vp_in y2 96 ∧ ∀ z6 : Sta, z6 = zA z 22 (upd (z.2.1 22) y2.toNatClampNeg v5) → K z6
def wp_M_mark (x1 : Int32) (x2 : Int32) (x3 : Int32) (x4 : Int32) (z : Sta) (K : Sta → Prop) : Prop :=
  ∀ v1 : Int32, v1 = 6 * x1 → ∀ v2 : Int32, v2 = v1 + x2 → vp_in v2 96 ∧ ∀ v3 : Int32, v3 = z.2.1 22 v2.toNatClampNeg → ((x4 = 0 → pj_M_mark_24 K 0 v3 v2 z) ∧ (¬ x4 = 0 → ∀ v4 : Int32, v4 = 1 <<< (x3 &&& 31) → pj_M_mark_24 K v4 v3 v2 z))
def pj_M_plans_319 (K : Sta → Prop) (y0 : Int32) (y1 : Int32) (z : Sta) : Prop :=
  ∀ v43 : Int32, v43 = y1 ||| y0 → ∀ z44 : Sta, z44 = zI z 12 v43 → K z44
def pj_M_plans_301 (K : Sta → Prop) (x1 : Int32) (x2 : Int32) (y0 : Int32) (y1 : Int32) (y2 : Int32) (z : Sta) : Prop :=
  ∀ v39 : Int32, v39 = y1 ||| y0 → vp_in y2 257 ∧ ∀ z40 : Sta, z40 = zA z 23 (upd (z.2.1 23) y2.toNatClampNeg v39) → ∀ v41 : Int32, v41 = z40.1 12 → ((x2 = 0 → pj_M_plans_319 K 0 v41 z40) ∧ (¬ x2 = 0 → ∀ v42 : Int32, v42 = 1 <<< (x1 &&& 31) → pj_M_plans_319 K v42 v41 z40))
def pj_M_plans_300 (K : Sta → Prop) (x1 : Int32) (x2 : Int32) (y0 : Int32) (y1 : Int32) (z : Sta) : Prop :=
  pj_M_plans_301 K x1 x2 0 y0 y1 z
def pj_M_plans_261 (K : Sta → Prop) (R63 : Int32 → Int32 → Int32 → Sta → Prop) (x1 : Int32) (x2 : Int32) (x3 : Int32) (z : Sta) : Prop :=
  ∀ v38 : Int32, v38 = x3 + 1 → R63 x1 x2 v38 z
def pj_M_plans_253 (K : Sta → Prop) (R195 : Int32 → Int32 → Int32 → Int32 → Sta → Prop) (x1 : Int32) (x2 : Int32) (x3 : Int32) (x5 : Int32) (y0 : Int32) (y1 : Int32) (y2 : Int32) (z : Sta) : Prop :=
  ∀ v35 : Int32, v35 = y1 ||| y0 → vp_in y2 257 ∧ ∀ z36 : Sta, z36 = zA z 23 (upd (z.2.1 23) y2.toNatClampNeg v35) → ∀ v37 : Int32, v37 = x5 + 1 → R195 x1 x2 x3 v37 z36
def pj_M_plans_252 (K : Sta → Prop) (R195 : Int32 → Int32 → Int32 → Int32 → Sta → Prop) (x1 : Int32) (x2 : Int32) (x3 : Int32) (x5 : Int32) (y0 : Int32) (y1 : Int32) (z : Sta) : Prop :=
  pj_M_plans_253 K R195 x1 x2 x3 x5 0 y0 y1 z
def lp_M_plans_195 (K : Sta → Prop) (R63 : Int32 → Int32 → Int32 → Sta → Prop) : Nat → Int32 → Int32 → Int32 → Int32 → Sta → Prop
  | 0, _, _, _, _, _ => False
  | n + 1, x1, x2, x3, x5, z => ∀ v27 : Int32, v27 = z.1 8 → ((v27 ≤ x5 → pj_M_plans_261 K R63 x1 x2 x3 z) ∧ (¬ v27 ≤ x5 → ∀ v28 : Int32, v28 = 16 * x5 → ∀ v29 : Int32, v29 = v28 + x3 → vp_in v29 257 ∧ ∀ v30 : Int32, v30 = z.2.1 23 v29.toNatClampNeg → wp_M_edge x5 x3 z (fun rz31 z31 => ((rz31 = 0 → pj_M_plans_252 K (fun x1 x2 x3 x5 z => lp_M_plans_195 K R63 n x1 x2 x3 x5 z) x1 x2 x3 x5 v30 v29 z31) ∧ (¬ rz31 = 0 → wp_M_laterOn x5 x3 z31 (fun rz32 z32 => ((rz32 = 0 → pj_M_plans_252 K (fun x1 x2 x3 x5 z => lp_M_plans_195 K R63 n x1 x2 x3 x5 z) x1 x2 x3 x5 v30 v29 z32) ∧ (¬ rz32 = 0 → vp_in x3 16 ∧ ∀ v33 : Int32, v33 = z32.2.1 31 x3.toNatClampNeg → ((¬ v33 = 0 → pj_M_plans_252 K (fun x1 x2 x3 x5 z => lp_M_plans_195 K R63 n x1 x2 x3 x5 z) x1 x2 x3 x5 v30 v29 z32) ∧ (v33 = 0 → ∀ v34 : Int32, v34 = 1 <<< (x1 &&& 31) → pj_M_plans_253 K (fun x1 x2 x3 x5 z => lp_M_plans_195 K R63 n x1 x2 x3 x5 z) x1 x2 x3 x5 v34 v30 v29 z32))))))))))
def pj_M_plans_191 (K : Sta → Prop) (R63 : Int32 → Int32 → Int32 → Sta → Prop) (x1 : Int32) (x3 : Int32) (y0 : Int32) (z : Sta) : Prop :=
  ∃ n195 : Nat, lp_M_plans_195 K R63 n195 x1 y0 x3 0 z
def pj_M_plans_186 (K : Sta → Prop) (R63 : Int32 → Int32 → Int32 → Sta → Prop) (x1 : Int32) (x3 : Int32) (z : Sta) : Prop :=
  pj_M_plans_191 K R63 x1 x3 1 z
def pj_M_plans_103 (K : Sta → Prop) (R63 : Int32 → Int32 → Int32 → Sta → Prop) (x1 : Int32) (x2 : Int32) (x3 : Int32) (y0 : Int32) (z : Sta) : Prop :=
  wp_M_thereBefore x3 z (fun rz16 z16 => wp_M_mark x3 0 x1 rz16 z16 (fun z17 => vp_in x3 16 ∧ ∀ v18 : Int32, v18 = z17.2.1 28 x3.toNatClampNeg → wp_M_mark x3 1 x1 v18 z17 (fun z19 => vp_in x3 16 ∧ ∀ v20 : Int32, v20 = z19.2.1 29 x3.toNatClampNeg → wp_M_mark x3 2 x1 v20 z19 (fun z21 => wp_M_wantedBehind x3 z21 (fun rz22 z22 => wp_M_mark x3 3 x1 rz22 z22 (fun z23 => vp_in x3 16 ∧ ∀ v24 : Int32, v24 = z23.2.1 31 x3.toNatClampNeg → wp_M_mark x3 4 x1 v24 z23 (fun z25 => wp_M_mark x3 5 x1 y0 z25 (fun z26 => ((¬ x2 = 0 → pj_M_plans_186 K R63 x1 x3 z26) ∧ (x2 = 0 → ((y0 = 0 → pj_M_plans_191 K R63 x1 x3 0 z26) ∧ (¬ y0 = 0 → pj_M_plans_186 K R63 x1 x3 z26))))))))))))
def pj_M_plans_102 (K : Sta → Prop) (R63 : Int32 → Int32 → Int32 → Sta → Prop) (x1 : Int32) (x2 : Int32) (x3 : Int32) (z : Sta) : Prop :=
  pj_M_plans_103 K R63 x1 x2 x3 0 z
def lp_M_plans_63 (K : Sta → Prop) : Nat → Int32 → Int32 → Int32 → Sta → Prop
  | 0, _, _, _, _ => False
  | n + 1, x1, x2, x3, z => ∀ v8 : Int32, v8 = z.1 8 → ((v8 ≤ x3 → vp_in (256 : Int32) 257 ∧ ∀ v9 : Int32, v9 = z.2.1 23 (256 : Int32).toNatClampNeg → wp_M_laterOn (-1) 0 z (fun rz10 z10 => ((rz10 = 0 → pj_M_plans_300 K x1 x2 v9 256 z10) ∧ (¬ rz10 = 0 → vp_in (0 : Int32) 16 ∧ ∀ v11 : Int32, v11 = z10.2.1 31 (0 : Int32).toNatClampNeg → ((¬ v11 = 0 → pj_M_plans_300 K x1 x2 v9 256 z10) ∧ (v11 = 0 → ∀ v12 : Int32, v12 = 1 <<< (x1 &&& 31) → pj_M_plans_301 K x1 x2 v12 v9 256 z10)))))) ∧ (¬ v8 ≤ x3 → vp_in x3 16 ∧ ∀ v13 : Int32, v13 = z.2.1 21 x3.toNatClampNeg → ((v13 = 0 → pj_M_plans_261 K (fun x1 x2 x3 z => lp_M_plans_63 K n x1 x2 x3 z) x1 x2 x3 z) ∧ (¬ v13 = 0 → vp_in x3 16 ∧ ∀ v14 : Int32, v14 = z.2.1 25 x3.toNatClampNeg → ((v14 = 0 → pj_M_plans_102 K (fun x1 x2 x3 z => lp_M_plans_63 K n x1 x2 x3 z) x1 x2 x3 z) ∧ (¬ v14 = 0 → vp_in x3 16 ∧ ∀ v15 : Int32, v15 = z.2.1 31 x3.toNatClampNeg → ((¬ v15 = 0 → pj_M_plans_102 K (fun x1 x2 x3 z => lp_M_plans_63 K n x1 x2 x3 z) x1 x2 x3 z) ∧ (v15 = 0 → pj_M_plans_103 K (fun x1 x2 x3 z => lp_M_plans_63 K n x1 x2 x3 z) x1 x2 x3 1 z))))))))
def lp_M_plans_43 (K : Sta → Prop) : Nat → Int32 → Int32 → Sta → Prop
  | 0, _, _, _ => False
  | n + 1, x1, x2, z => (((3 : Int32) ≤ x2 → ∃ n63 : Nat, lp_M_plans_63 K n63 x1 0 0 z) ∧ (¬ (3 : Int32) ≤ x2 → wp_M_settle x2 z (fun z6 => ∀ v7 : Int32, v7 = x2 + 1 → lp_M_plans_43 K n x1 v7 z6)))
def lp_M_plans_2 (K : Sta → Prop) : Nat → Int32 → Int32 → Sta → Prop
  | 0, _, _, _ => False
  | n + 1, x1, x2, z => (((16 : Int32) ≤ x2 → ∃ n43 : Nat, lp_M_plans_43 K n43 x1 0 z) ∧ (¬ (16 : Int32) ≤ x2 → wp_M_look x2 x1 z (fun z1 => vp_in x2 16 ∧ ∀ z2 : Sta, z2 = zA z1 28 (upd (z1.2.1 28) x2.toNatClampNeg (vp_nar .boolean (1 : Int32))) → vp_in x2 16 ∧ ∀ z3 : Sta, z3 = zA z2 29 (upd (z2.2.1 29) x2.toNatClampNeg (vp_nar .boolean (1 : Int32))) → vp_in x2 16 ∧ ∀ z4 : Sta, z4 = zA z3 31 (upd (z3.2.1 31) x2.toNatClampNeg (vp_nar .boolean (1 : Int32))) → ∀ v5 : Int32, v5 = x2 + 1 → lp_M_plans_2 K n x1 v5 z4)))
def wp_M_plans (x1 : Int32) (z : Sta) (K : Sta → Prop) : Prop :=
  ∃ n2 : Nat, lp_M_plans_2 K n2 x1 0 z
def lp_M_bits_4 (K : Int32 → Sta → Prop) : Nat → Int32 → Int32 → Int32 → Sta → Prop
  | 0, _, _, _, _ => False
  | n + 1, x0, x1, x2, z => (((24 : Int32) ≤ x2 → K x1 z) ∧ (¬ (24 : Int32) ≤ x2 → ∀ v1 : Int32, v1 = x0 >>> (x2 &&& 31) → ∀ v2 : Int32, v2 = v1 &&& 1 → ∀ v3 : Int32, v3 = x1 + v2 → ∀ v4 : Int32, v4 = x2 + 1 → lp_M_bits_4 K n x0 v3 v4 z))
def wp_M_bits (x0 : Int32) (z : Sta) (K : Int32 → Sta → Prop) : Prop :=
  ∃ n4 : Nat, lp_M_bits_4 K n4 x0 0 0 z
def lp_M_plan_85 (K : Int32 → Sta → Prop) : Nat → Int32 → Sta → Prop
  | 0, _, _ => False
  | n + 1, x1, z => ∀ v12 : Int32, v12 = z.1 9 → ((v12 ≤ x1 → ∀ z13 : Sta, z13 = zI z 10 (1 : Int32) → ∀ v14 : Int32, v14 = z13.1 11 → ∀ v15 : Int32, v15 = v14 + 1 → ∀ z16 : Sta, z16 = zI z13 11 v15 → ∀ v17 : Int32, v17 = z16.1 12 → wp_M_bits v17 z16 (fun rz18 z18 => K rz18 z18)) ∧ (¬ v12 ≤ x1 → wp_M_plans x1 z (fun z19 => ∀ v20 : Int32, v20 = x1 + 1 → lp_M_plan_85 K n v20 z19)))
def lp_M_plan_63 (K : Int32 → Sta → Prop) : Nat → Int32 → Sta → Prop
  | 0, _, _ => False
  | n + 1, x1, z => (((257 : Int32) ≤ x1 → ∃ n85 : Nat, lp_M_plan_85 K n85 0 z) ∧ (¬ (257 : Int32) ≤ x1 → vp_in x1 257 ∧ ∀ z10 : Sta, z10 = zA z 23 (upd (z.2.1 23) x1.toNatClampNeg (0 : Int32)) → ∀ v11 : Int32, v11 = x1 + 1 → lp_M_plan_63 K n v11 z10))
def lp_M_plan_42 (K : Int32 → Sta → Prop) : Nat → Int32 → Sta → Prop
  | 0, _, _ => False
  | n + 1, x1, z => (((96 : Int32) ≤ x1 → ∃ n63 : Nat, lp_M_plan_63 K n63 0 z) ∧ (¬ (96 : Int32) ≤ x1 → vp_in x1 96 ∧ ∀ z8 : Sta, z8 = zA z 22 (upd (z.2.1 22) x1.toNatClampNeg (0 : Int32)) → ∀ v9 : Int32, v9 = x1 + 1 → lp_M_plan_42 K n v9 z8))
def wp_M_plan (z : Sta) (K : Int32 → Sta → Prop) : Prop :=
  ∀ z1 : Sta, z1 = zI z 7 (0 : Int32) → ∀ v2 : Int32, v2 = z1.1 8 → ((¬ v2 = 0 → wp_M_whole z1 (fun rz3 z3 => ((¬ rz3 = 0 → wp_M_reach z3 (fun z4 => ∀ z5 : Sta, z5 = zI z4 12 (0 : Int32) → ∃ n42 : Nat, lp_M_plan_42 K n42 0 z5)) ∧ (rz3 = 0 → wp_M_fail 2 z3 (fun rz6 z6 => K rz6 z6))))) ∧ (v2 = 0 → wp_M_fail 1 z1 (fun rz7 z7 => K rz7 z7)))
def pj_M_set_63 (K : Int64 → Sta → Prop) (y0 : Int64) (z : Sta) : Prop :=
  K y0 z
def pj_M_set_57 (K : Int64 → Sta → Prop) (z : Sta) : Prop :=
  wp_M_fail 2 z (fun rz13 z13 => ∀ v14 : Int64, v14 = rz13.toInt64 → pj_M_set_63 K v14 z13)
def wp_M_set (x1 : Int32) (x2 : Int32) (z : Sta) (K : Int64 → Sta → Prop) : Prop :=
  ∀ z1 : Sta, z1 = zI z 7 (0 : Int32) → ∀ v2 : Int32, v2 = z1.1 10 → ((¬ v2 = 0 → ∀ v3 : Int32, v3 = z1.1 8 → ∀ v4 : Int32, v4 = v3 - 1 → wp_M_within x1 0 v4 z1 (fun rz5 z5 => ((rz5 = 0 → pj_M_set_57 K z5) ∧ (¬ rz5 = 0 → wp_M_within x2 0 5 z5 (fun rz6 z6 => ((rz6 = 0 → pj_M_set_57 K z6) ∧ (¬ rz6 = 0 → ∀ v7 : Int32, v7 = 6 * x1 → ∀ v8 : Int32, v8 = v7 + x2 → vp_in v8 96 ∧ ∀ v9 : Int32, v9 = z6.2.1 22 v8.toNatClampNeg → ∀ v10 : Int64, v10 = v9.toInt64 → pj_M_set_63 K v10 z6))))))) ∧ (v2 = 0 → wp_M_fail 1 z1 (fun rz11 z11 => ∀ v12 : Int64, v12 = rz11.toInt64 → K v12 z11)))
def pj_M_isEdge_57 (K : Int32 → Sta → Prop) (y0 : Int32) (z : Sta) : Prop :=
  (y0 = 0 ∨ y0 = 1) ∧ K y0 z
def pj_M_isEdge_56 (K : Int32 → Sta → Prop) (z : Sta) : Prop :=
  pj_M_isEdge_57 K 0 z
def pj_M_isEdge_14 (K : Int32 → Sta → Prop) (y0 : Int32) (z : Sta) : Prop :=
  (y0 = 0 ∨ y0 = 1) ∧ K y0 z
def wp_M_isEdge (x1 : Int32) (x2 : Int32) (z : Sta) (K : Int32 → Sta → Prop) : Prop :=
  ((¬ x1 = (-1 : Int32) → ∀ v1 : Int32, v1 = z.1 8 → ∀ v2 : Int32, v2 = v1 - 1 → wp_M_within x1 0 v2 z (fun rz3 z3 => ((rz3 = 0 → pj_M_isEdge_56 K z3) ∧ (¬ rz3 = 0 → ∀ v4 : Int32, v4 = z3.1 8 → ∀ v5 : Int32, v5 = v4 - 1 → wp_M_within x2 0 v5 z3 (fun rz6 z6 => ((rz6 = 0 → pj_M_isEdge_56 K z6) ∧ (¬ rz6 = 0 → wp_M_edge x1 x2 z6 (fun rz7 z7 => ((rz7 = 0 → pj_M_isEdge_56 K z7) ∧ (¬ rz7 = 0 → pj_M_isEdge_57 K 1 z7)))))))))) ∧ (x1 = (-1 : Int32) → ((¬ x2 = 0 → pj_M_isEdge_14 K 0 z) ∧ (x2 = 0 → pj_M_isEdge_14 K 1 z))))
def pj_M_put_59 (K : Int64 → Sta → Prop) (y0 : Int64) (z : Sta) : Prop :=
  K y0 z
def pj_M_put_48 (K : Int64 → Sta → Prop) (y0 : Int32) (z : Sta) : Prop :=
  vp_in y0 257 ∧ ∀ v10 : Int32, v10 = z.2.1 23 y0.toNatClampNeg → ∀ v11 : Int64, v11 = v10.toInt64 → pj_M_put_59 K v11 z
def wp_M_put (x1 : Int32) (x2 : Int32) (z : Sta) (K : Int64 → Sta → Prop) : Prop :=
  ∀ z1 : Sta, z1 = zI z 7 (0 : Int32) → ∀ v2 : Int32, v2 = z1.1 10 → ((¬ v2 = 0 → wp_M_isEdge x1 x2 z1 (fun rz3 z3 => ((rz3 = 0 → wp_M_fail 2 z3 (fun rz4 z4 => ∀ v5 : Int64, v5 = rz4.toInt64 → pj_M_put_59 K v5 z4)) ∧ (¬ rz3 = 0 → ((0 ≤ x1 → ∀ v6 : Int32, v6 = 16 * x1 → ∀ v7 : Int32, v7 = v6 + x2 → pj_M_put_48 K v7 z3) ∧ (¬ 0 ≤ x1 → pj_M_put_48 K 256 z3)))))) ∧ (v2 = 0 → wp_M_fail 1 z1 (fun rz8 z8 => ∀ v9 : Int64, v9 = rz8.toInt64 → K v9 z8)))
def pj_M_expression_29 (K : Int32 → Sta → Prop) (y0 : Int32) (z : Sta) : Prop :=
  K y0 z
def wp_M_expression (x1 : Int32) (x2 : Int32) (x3 : Int32) (z : Sta) (K : Int32 → Sta → Prop) : Prop :=
  ∀ z1 : Sta, z1 = zI z 7 (0 : Int32) → wp_M_find x1 x2 x3 z1 (fun rz2 z2 => ((0 ≤ rz2 → pj_M_expression_29 K rz2 z2) ∧ (¬ 0 ≤ rz2 → wp_M_fail 1 z2 (fun rz3 z3 => pj_M_expression_29 K rz3 z3))))
def pj_M_worked_109 (K : Int32 → Sta → Prop) (y0 : Int32) (z : Sta) : Prop :=
  K y0 z
def wp_M_worked (x1 : Int32) (z : Sta) (K : Int32 → Sta → Prop) : Prop :=
  vp_in x1 24 ∧ ∀ v1 : Int32, v1 = z.2.1 18 x1.toNatClampNeg → vp_in v1 6 ∧ ∀ v2 : Int32, v2 = z.2.1 32 v1.toNatClampNeg → vp_in x1 24 ∧ ∀ v3 : Int32, v3 = z.2.1 20 x1.toNatClampNeg → vp_in v3 6 ∧ ∀ v4 : Int32, v4 = z.2.1 32 v3.toNatClampNeg → vp_in x1 24 ∧ ∀ v5 : Int32, v5 = z.2.1 19 x1.toNatClampNeg → ∀ v6 : Int32, v6 = z.1 15 → ∀ v7 : Int32, v7 = v6 + 1 → ∀ z8 : Sta, z8 = zI z 15 v7 → vp_in x1 24 ∧ ∀ v9 : Int32, v9 = z8.2.1 34 x1.toNatClampNeg → ∀ v10 : Int32, v10 = v9 + 1 → vp_in x1 24 ∧ ∀ z11 : Sta, z11 = zA z8 34 (upd (z8.2.1 34) x1.toNatClampNeg v10) → ((¬ v5 = 0 → ((¬ v5 = (1 : Int32) → ((¬ v5 = (2 : Int32) → ((¬ v5 = (3 : Int32) → ((v4 ≤ v2 → pj_M_worked_109 K 0 z11) ∧ (¬ v4 ≤ v2 → pj_M_worked_109 K 1 z11))) ∧ (v5 = (3 : Int32) → ∀ v12 : Int32, v12 = v2 &&& v4 → pj_M_worked_109 K v12 z11))) ∧ (v5 = (2 : Int32) → ∀ v13 : Int32, v13 = v2 * v4 → pj_M_worked_109 K v13 z11))) ∧ (v5 = (1 : Int32) → ∀ v14 : Int32, v14 = v2 - v4 → pj_M_worked_109 K v14 z11))) ∧ (v5 = 0 → ∀ v15 : Int32, v15 = v2 + v4 → pj_M_worked_109 K v15 z11))
def pj_M_cross_30 (K : Sta → Prop) (R2 : Int32 → Int32 → Sta → Prop) (x1 : Int32) (x2 : Int32) (z : Sta) : Prop :=
  ∀ v6 : Int32, v6 = x2 + 1 → R2 x1 v6 z
def lp_M_cross_2 (K : Sta → Prop) : Nat → Int32 → Int32 → Sta → Prop
  | 0, _, _, _ => False
  | n + 1, x1, x2, z => ∀ v1 : Int32, v1 = z.1 9 → ((v1 ≤ x2 → K z) ∧ (¬ v1 ≤ x2 → ∀ v2 : Int32, v2 = x1 >>> (x2 &&& 31) → ∀ v3 : Int32, v3 = v2 &&& 1 → ((¬ v3 = (1 : Int32) → pj_M_cross_30 K (fun x1 x2 z => lp_M_cross_2 K n x1 x2 z) x1 x2 z) ∧ (v3 = (1 : Int32) → wp_M_worked x2 z (fun rz4 z4 => vp_in x2 24 ∧ ∀ z5 : Sta, z5 = zA z4 33 (upd (z4.2.1 33) x2.toNatClampNeg rz4) → pj_M_cross_30 K (fun x1 x2 z => lp_M_cross_2 K n x1 x2 z) x1 x2 z5)))))
def wp_M_cross (x1 : Int32) (z : Sta) (K : Sta → Prop) : Prop :=
  ∃ n2 : Nat, lp_M_cross_2 K n2 x1 0 z
def pj_M_newly_49 (K : Int32 → Sta → Prop) (x3 : Int32) (y0 : Int32) (y1 : Int32) (z : Sta) : Prop :=
  vp_in y1 24 ∧ ∀ z9 : Sta, z9 = zA z 33 (upd (z.2.1 33) y1.toNatClampNeg y0) → K x3 z9
def wp_M_newly (x1 : Int32) (x2 : Int32) (z : Sta) (K : Int32 → Sta → Prop) : Prop :=
  ∀ v1 : Int32, v1 = x2 >>> (x1 &&& 31) → ∀ v2 : Int32, v2 = v1 &&& 1 → ((¬ v2 = (1 : Int32) → wp_M_worked x1 z (fun rz3 z3 => ∀ v4 : Int32, v4 = z3.1 12 → ∀ v5 : Int32, v5 = v4 >>> (x1 &&& 31) → ∀ v6 : Int32, v6 = v5 &&& 1 → ((¬ v6 = (1 : Int32) → vp_in x1 24 ∧ ∀ v7 : Int32, v7 = z3.2.1 33 x1.toNatClampNeg → pj_M_newly_49 K rz3 v7 x1 z3) ∧ (v6 = (1 : Int32) → pj_M_newly_49 K rz3 rz3 x1 z3)))) ∧ (v2 = (1 : Int32) → vp_in x1 24 ∧ ∀ v8 : Int32, v8 = z.2.1 33 x1.toNatClampNeg → K v8 z))
def pj_M_pass_221 (K : Sta → Prop) (R23 : Int32 → Int32 → Int32 → Int32 → Sta → Prop) (x1 : Int32) (x2 : Int32) (x3 : Int32) (x4 : Int32) (z : Sta) : Prop :=
  ∀ v28 : Int32, v28 = x4 + 1 → R23 x1 x2 x3 v28 z
def pj_M_pass_211 (K : Sta → Prop) (R23 : Int32 → Int32 → Int32 → Int32 → Sta → Prop) (x1 : Int32) (x2 : Int32) (x3 : Int32) (x4 : Int32) (z : Sta) : Prop :=
  ∀ v33 : Int32, v33 = z.1 13 → ∀ v34 : Int32, v34 = v33 + 1 → ∀ z35 : Sta, z35 = zI z 13 v34 → pj_M_pass_221 K R23 x1 x2 x3 x4 z35
def pj_M_pass_163 (K : Sta → Prop) (R23 : Int32 → Int32 → Int32 → Int32 → Sta → Prop) (x1 : Int32) (x2 : Int32) (x3 : Int32) (x4 : Int32) (x6 : Int32) (x7 : Int32) (y0 : Int32) (z : Sta) : Prop :=
  ∀ v29 : Int32, v29 = 1 <<< (x7 &&& 31) → ∀ v30 : Int32, v30 = v29 ^^^ (-1) → ∀ v31 : Int32, v31 = x3 &&& v30 → vp_in x6 6 ∧ ∀ z32 : Sta, z32 = zA z 32 (upd (z.2.1 32) x6.toNatClampNeg y0) → pj_M_pass_221 K R23 x1 x2 v31 x4 z32
def lp_M_pass_23 (K : Sta → Prop) : Nat → Int32 → Int32 → Int32 → Int32 → Sta → Prop
  | 0, _, _, _, _, _ => False
  | n + 1, x1, x2, x3, x4, z => vp_in x1 16 ∧ ∀ v4 : Int32, v4 = z.2.1 15 x1.toNatClampNeg → ((v4 ≤ x4 → K z) ∧ (¬ v4 ≤ x4 → ∀ v5 : Int32, v5 = 30 * x1 → ∀ v6 : Int32, v6 = 6 * x4 → ∀ v7 : Int32, v7 = v5 + v6 → ∀ v8 : Int32, v8 = v7 + 1 → vp_in v8 480 ∧ ∀ v9 : Int32, v9 = z.2.1 16 v8.toNatClampNeg → ∀ v10 : Int32, v10 = v7 + 5 → vp_in v10 480 ∧ ∀ v11 : Int32, v11 = z.2.1 16 v10.toNatClampNeg → vp_in v7 480 ∧ ∀ v12 : Int32, v12 = z.2.1 16 v7.toNatClampNeg → ((¬ v12 = 0 → vp_in v7 480 ∧ ∀ v13 : Int32, v13 = z.2.1 16 v7.toNatClampNeg → ((¬ v13 = (1 : Int32) → vp_in v7 480 ∧ ∀ v14 : Int32, v14 = z.2.1 16 v7.toNatClampNeg → ((¬ v14 = (2 : Int32) → ∀ v15 : Int32, v15 = z.1 13 → (((100 : Int32) ≤ v15 → pj_M_pass_211 K (fun x1 x2 x3 x4 z => lp_M_pass_23 K n x1 x2 x3 x4 z) x1 x2 x3 x4 z) ∧ (¬ (100 : Int32) ≤ v15 → ∀ v16 : Int32, v16 = z.1 13 → vp_in v9 6 ∧ ∀ v17 : Int32, v17 = z.2.1 32 v9.toNatClampNeg → vp_in v16 100 ∧ ∀ z18 : Sta, z18 = zA z 35 (upd (z.2.1 35) v16.toNatClampNeg v17) → pj_M_pass_211 K (fun x1 x2 x3 x4 z => lp_M_pass_23 K n x1 x2 x3 x4 z) x1 x2 x3 x4 z18))) ∧ (v14 = (2 : Int32) → ((x2 = 0 → wp_M_worked v11 z (fun rz19 z19 => pj_M_pass_163 K (fun x1 x2 x3 x4 z => lp_M_pass_23 K n x1 x2 x3 x4 z) x1 x2 x3 x4 v9 v11 rz19 z19)) ∧ (¬ x2 = 0 → wp_M_newly v11 x3 z (fun rz20 z20 => pj_M_pass_163 K (fun x1 x2 x3 x4 z => lp_M_pass_23 K n x1 x2 x3 x4 z) x1 x2 x3 x4 v9 v11 rz20 z20)))))) ∧ (v13 = (1 : Int32) → ∀ v21 : Int32, v21 = v7 + 2 → vp_in v21 480 ∧ ∀ v22 : Int32, v22 = z.2.1 16 v21.toNatClampNeg → vp_in v9 6 ∧ ∀ z23 : Sta, z23 = zA z 32 (upd (z.2.1 32) v9.toNatClampNeg v22) → pj_M_pass_221 K (fun x1 x2 x3 x4 z => lp_M_pass_23 K n x1 x2 x3 x4 z) x1 x2 x3 x4 z23))) ∧ (v12 = 0 → ∀ v24 : Int32, v24 = v7 + 2 → vp_in v24 480 ∧ ∀ v25 : Int32, v25 = z.2.1 16 v24.toNatClampNeg → vp_in v25 6 ∧ ∀ v26 : Int32, v26 = z.2.1 32 v25.toNatClampNeg → vp_in v9 6 ∧ ∀ z27 : Sta, z27 = zA z 32 (upd (z.2.1 32) v9.toNatClampNeg v26) → pj_M_pass_221 K (fun x1 x2 x3 x4 z => lp_M_pass_23 K n x1 x2 x3 x4 z) x1 x2 x3 x4 z27))))
def pj_M_pass_19 (K : Sta → Prop) (x1 : Int32) (x2 : Int32) (y0 : Int32) (z : Sta) : Prop :=
  ∃ n23 : Nat, lp_M_pass_23 K n23 x1 x2 y0 0 z
def wp_M_pass (x1 : Int32) (x2 : Int32) (z : Sta) (K : Sta → Prop) : Prop :=
  ((x2 = 0 → pj_M_pass_19 K x1 x2 0 z) ∧ (¬ x2 = 0 → ∀ v1 : Int32, v1 = 6 * x1 → ∀ v2 : Int32, v2 = v1 + 5 → vp_in v2 96 ∧ ∀ v3 : Int32, v3 = z.2.1 22 v2.toNatClampNeg → pj_M_pass_19 K x1 x2 v3 z))
def pj_M_run_268 (K : Int32 → Sta → Prop) (R138 : Int32 → Int32 → Sta → Prop) (x1 : Int32) (x7 : Int32) (z : Sta) : Prop :=
  R138 x1 x7 z
def pj_M_run_240 (K : Int32 → Sta → Prop) (R138 : Int32 → Int32 → Sta → Prop) (x1 : Int32) (x5 : Int32) (y0 : Int32) (z : Sta) : Prop :=
  ((x1 = 0 → pj_M_run_268 K R138 x1 y0 z) ∧ (¬ x1 = 0 → ((y0 < 0 → pj_M_run_268 K R138 x1 y0 z) ∧ (¬ y0 < 0 → ∀ v29 : Int32, v29 = 16 * x5 → ∀ v30 : Int32, v30 = v29 + y0 → vp_in v30 257 ∧ ∀ v31 : Int32, v31 = z.2.1 23 v30.toNatClampNeg → wp_M_cross v31 z (fun z32 => pj_M_run_268 K R138 x1 y0 z32)))))
def pj_M_run_215 (K : Int32 → Sta → Prop) (R138 : Int32 → Int32 → Sta → Prop) (x1 : Int32) (x5 : Int32) (z : Sta) : Prop :=
  ∀ v33 : Int32, v33 = 4 * x5 → ∀ v34 : Int32, v34 = v33 + 2 → vp_in v34 64 ∧ ∀ v35 : Int32, v35 = z.2.1 17 v34.toNatClampNeg → pj_M_run_240 K R138 x1 x5 v35 z
def pj_M_run_186 (K : Int32 → Sta → Prop) (R138 : Int32 → Int32 → Sta → Prop) (x1 : Int32) (x5 : Int32) (z : Sta) : Prop :=
  pj_M_run_240 K R138 x1 x5 (-1) z
def lp_M_run_138 (K : Int32 → Sta → Prop) : Nat → Int32 → Int32 → Sta → Prop
  | 0, _, _, _ => False
  | n + 1, x1, x5, z => ((x5 < 0 → ∀ v14 : Int32, v14 = z.1 15 → K v14 z) ∧ (¬ x5 < 0 → wp_M_pass x5 x1 z (fun z15 => ∀ v16 : Int32, v16 = z15.1 14 → ∀ v17 : Int32, v17 = v16 + 1 → ∀ z18 : Sta, z18 = zI z15 14 v17 → ∀ v19 : Int32, v19 = 4 * x5 → vp_in v19 64 ∧ ∀ v20 : Int32, v20 = z18.2.1 17 v19.toNatClampNeg → ((v20 = 0 → pj_M_run_186 K (fun x1 x5 z => lp_M_run_138 K n x1 x5 z) x1 x5 z18) ∧ (¬ v20 = 0 → ∀ v21 : Int32, v21 = z18.1 14 → ((¬ v21 = (200 : Int32) → ((v20 = (1 : Int32) → pj_M_run_215 K (fun x1 x5 z => lp_M_run_138 K n x1 x5 z) x1 x5 z18) ∧ (¬ v20 = (1 : Int32) → ∀ v22 : Int32, v22 = 4 * x5 → ∀ v23 : Int32, v23 = v22 + 1 → vp_in v23 64 ∧ ∀ v24 : Int32, v24 = z18.2.1 17 v23.toNatClampNeg → vp_in v24 6 ∧ ∀ v25 : Int32, v25 = z18.2.1 32 v24.toNatClampNeg → ((v25 = 0 → ∀ v26 : Int32, v26 = 4 * x5 → ∀ v27 : Int32, v27 = v26 + 3 → vp_in v27 64 ∧ ∀ v28 : Int32, v28 = z18.2.1 17 v27.toNatClampNeg → pj_M_run_240 K (fun x1 x5 z => lp_M_run_138 K n x1 x5 z) x1 x5 v28 z18) ∧ (¬ v25 = 0 → pj_M_run_215 K (fun x1 x5 z => lp_M_run_138 K n x1 x5 z) x1 x5 z18))))) ∧ (v21 = (200 : Int32) → pj_M_run_186 K (fun x1 x5 z => lp_M_run_138 K n x1 x5 z) x1 x5 z18)))))))
def lp_M_run_75 (K : Int32 → Sta → Prop) : Nat → Int32 → Int32 → Sta → Prop
  | 0, _, _, _ => False
  | n + 1, x1, x5, z => (((24 : Int32) ≤ x5 → ∀ z6 : Sta, z6 = zI z 13 (0 : Int32) → ∀ z7 : Sta, z7 = zI z6 14 (0 : Int32) → ∀ z8 : Sta, z8 = zI z7 15 (0 : Int32) → ((x1 = 0 → ∃ n138 : Nat, lp_M_run_138 K n138 x1 0 z8) ∧ (¬ x1 = 0 → vp_in (256 : Int32) 257 ∧ ∀ v9 : Int32, v9 = z8.2.1 23 (256 : Int32).toNatClampNeg → wp_M_cross v9 z8 (fun z10 => ∃ n138 : Nat, lp_M_run_138 K n138 x1 0 z10)))) ∧ (¬ (24 : Int32) ≤ x5 → vp_in x5 24 ∧ ∀ z11 : Sta, z11 = zA z 33 (upd (z.2.1 33) x5.toNatClampNeg (0 : Int32)) → vp_in x5 24 ∧ ∀ z12 : Sta, z12 = zA z11 34 (upd (z11.2.1 34) x5.toNatClampNeg (0 : Int32)) → ∀ v13 : Int32, v13 = x5 + 1 → lp_M_run_75 K n x1 v13 z12))
def pj_M_run_65 (K : Int32 → Sta → Prop) (R21 : Int32 → Int32 → Int32 → Int32 → Int32 → Sta → Prop) (x1 : Int32) (x2 : Int32) (x3 : Int32) (x4 : Int32) (x5 : Int32) (y0 : Int32) (y1 : Int32) (z : Sta) : Prop :=
  vp_in y1 6 ∧ ∀ z4 : Sta, z4 = zA z 32 (upd (z.2.1 32) y1.toNatClampNeg y0) → ∀ v5 : Int32, v5 = x5 + 1 → R21 x1 x2 x3 x4 v5 z4
def lp_M_run_21 (K : Int32 → Sta → Prop) : Nat → Int32 → Int32 → Int32 → Int32 → Int32 → Sta → Prop
  | 0, _, _, _, _, _, _ => False
  | n + 1, x1, x2, x3, x4, x5, z => (((6 : Int32) ≤ x5 → ∃ n75 : Nat, lp_M_run_75 K n75 x1 0 z) ∧ (¬ (6 : Int32) ≤ x5 → ((¬ x5 = 0 → ((¬ x5 = (1 : Int32) → ((¬ x5 = (2 : Int32) → pj_M_run_65 K (fun x1 x2 x3 x4 x5 z => lp_M_run_21 K n x1 x2 x3 x4 x5 z) x1 x2 x3 x4 x5 0 x5 z) ∧ (x5 = (2 : Int32) → pj_M_run_65 K (fun x1 x2 x3 x4 x5 z => lp_M_run_21 K n x1 x2 x3 x4 x5 z) x1 x2 x3 x4 x5 x4 x5 z))) ∧ (x5 = (1 : Int32) → pj_M_run_65 K (fun x1 x2 x3 x4 x5 z => lp_M_run_21 K n x1 x2 x3 x4 x5 z) x1 x2 x3 x4 x5 x3 x5 z))) ∧ (x5 = 0 → pj_M_run_65 K (fun x1 x2 x3 x4 x5 z => lp_M_run_21 K n x1 x2 x3 x4 x5 z) x1 x2 x3 x4 x5 x2 x5 z))))
def wp_M_run (x1 : Int32) (x2 : Int32) (x3 : Int32) (x4 : Int32) (z : Sta) (K : Int32 → Sta → Prop) : Prop :=
  ∀ z1 : Sta, z1 = zI z 7 (0 : Int32) → ∀ v2 : Int32, v2 = z1.1 10 → ((¬ v2 = 0 → ∃ n21 : Nat, lp_M_run_21 K n21 x1 x2 x3 x4 0 z1) ∧ (v2 = 0 → wp_M_fail 1 z1 (fun rz3 z3 => K rz3 z3)))
def wp_M_outs (z : Sta) (K : Int32 → Sta → Prop) : Prop :=
  ∀ z1 : Sta, z1 = zI z 7 (0 : Int32) → ∀ v2 : Int32, v2 = z1.1 13 → K v2 z1
def pj_M_out_37 (K : Int32 → Sta → Prop) (y0 : Int32) (z : Sta) : Prop :=
  K y0 z
def pj_M_out_32 (K : Int32 → Sta → Prop) (z : Sta) : Prop :=
  wp_M_fail 1 z (fun rz5 z5 => pj_M_out_37 K rz5 z5)
def wp_M_out (x1 : Int32) (z : Sta) (K : Int32 → Sta → Prop) : Prop :=
  ∀ z1 : Sta, z1 = zI z 7 (0 : Int32) → wp_M_within x1 0 99 z1 (fun rz2 z2 => ((rz2 = 0 → pj_M_out_32 K z2) ∧ (¬ rz2 = 0 → ∀ v3 : Int32, v3 = z2.1 13 → ((v3 ≤ x1 → pj_M_out_32 K z2) ∧ (¬ v3 ≤ x1 → vp_in x1 100 ∧ ∀ v4 : Int32, v4 = z2.2.1 35 x1.toNatClampNeg → pj_M_out_37 K v4 z2)))))
def pj_M_variable_28 (K : Int32 → Sta → Prop) (y0 : Int32) (z : Sta) : Prop :=
  K y0 z
def wp_M_variable (x1 : Int32) (z : Sta) (K : Int32 → Sta → Prop) : Prop :=
  ∀ z1 : Sta, z1 = zI z 7 (0 : Int32) → wp_M_within x1 0 5 z1 (fun rz2 z2 => ((rz2 = 0 → wp_M_fail 1 z2 (fun rz3 z3 => pj_M_variable_28 K rz3 z3)) ∧ (¬ rz2 = 0 → vp_in x1 6 ∧ ∀ v4 : Int32, v4 = z2.2.1 32 x1.toNatClampNeg → pj_M_variable_28 K v4 z2)))
def pj_M_computed_29 (K : Int32 → Sta → Prop) (y0 : Int32) (z : Sta) : Prop :=
  K y0 z
def wp_M_computed (x1 : Int32) (z : Sta) (K : Int32 → Sta → Prop) : Prop :=
  ∀ z1 : Sta, z1 = zI z 7 (0 : Int32) → ∀ v2 : Int32, v2 = z1.1 9 → ∀ v3 : Int32, v3 = v2 - 1 → wp_M_within x1 0 v3 z1 (fun rz4 z4 => ((rz4 = 0 → pj_M_computed_29 K 0 z4) ∧ (¬ rz4 = 0 → vp_in x1 24 ∧ ∀ v5 : Int32, v5 = z4.2.1 34 x1.toNatClampNeg → pj_M_computed_29 K v5 z4)))
def pj_M_count_59 (K : Int32 → Sta → Prop) (y0 : Int32) (z : Sta) : Prop :=
  K y0 z
def wp_M_count (x1 : Int32) (z : Sta) (K : Int32 → Sta → Prop) : Prop :=
  ∀ z1 : Sta, z1 = zI z 7 (0 : Int32) → wp_M_within x1 0 3 z1 (fun rz2 z2 => ((¬ rz2 = 0 → ((¬ x1 = 0 → ((¬ x1 = (1 : Int32) → ((¬ x1 = (2 : Int32) → ∀ v3 : Int32, v3 = z2.1 14 → pj_M_count_59 K v3 z2) ∧ (x1 = (2 : Int32) → ∀ v4 : Int32, v4 = z2.1 11 → pj_M_count_59 K v4 z2))) ∧ (x1 = (1 : Int32) → ∀ v5 : Int32, v5 = z2.1 9 → pj_M_count_59 K v5 z2))) ∧ (x1 = 0 → ∀ v6 : Int32, v6 = z2.1 8 → pj_M_count_59 K v6 z2))) ∧ (rz2 = 0 → wp_M_fail 1 z2 (fun rz7 z7 => K rz7 z7))))
def wp_P_addStatement (x1 : Int32) (x2 : Int32) (x3 : Int32) (z : Sta) (K : Int32 → Sta → Prop) : Prop :=
  ∀ v1 : Int32, v1 = z.1 2 → ∀ v2 : Int32, v2 = v1 - 1 → ∀ v3 : Int32, v3 = v2 * 5 → vp_in v2 16 ∧ ∀ v4 : Int32, v4 = z.2.1 0 v2.toNatClampNeg → ∀ v5 : Int32, v5 = v3 + v4 → vp_in v5 80 ∧ ∀ z6 : Sta, z6 = zA z 1 (upd (z.2.1 1) v5.toNatClampNeg x1) → vp_in v5 80 ∧ ∀ z7 : Sta, z7 = zA z6 2 (upd (z6.2.1 2) v5.toNatClampNeg x2) → vp_in v5 80 ∧ ∀ z8 : Sta, z8 = zA z7 3 (upd (z7.2.1 3) v5.toNatClampNeg x3) → vp_in v2 16 ∧ ∀ v9 : Int32, v9 = z8.2.1 0 v2.toNatClampNeg → ∀ v10 : Int32, v10 = v9 + 1 → vp_in v2 16 ∧ ∀ z11 : Sta, z11 = zA z8 0 (upd (z8.2.1 0) v2.toNatClampNeg v10) → vp_in v2 16 ∧ ∀ v12 : Int32, v12 = z11.2.1 0 v2.toNatClampNeg → K v12 z11
end
section
def ix (n : Nat) : Int32 := Int32.ofNat n
theorem ix_toInt {a : Nat} (ha : a < 2147483648) : (ix a).toInt = a := Int32.toInt_ofNat_of_lt (by omega)
theorem ix_inj {a b : Nat} (ha : a < 2147483648) (hb : b < 2147483648) : ix a = ix b ↔ a = b := by
  constructor
  · intro h
    have := congrArg Int32.toInt h
    rw [ix_toInt ha, ix_toInt hb] at this
    omega
  · intro h; rw [h]
theorem ix_nat {a : Nat} (ha : a < 2147483648) : (ix a).toNatClampNeg = a := by
  rw [Int32.toNatClampNeg, ix_toInt ha]; rfl
theorem ix_le {a b : Nat} (ha : a < 2147483648) (hb : b < 2147483648) : ix a ≤ ix b ↔ a ≤ b := by
  rw [Int32.le_iff_toInt_le, ix_toInt ha, ix_toInt hb]; omega
theorem ix_lt {a b : Nat} (ha : a < 2147483648) (hb : b < 2147483648) : ix a < ix b ↔ a < b := by
  rw [Int32.lt_iff_toInt_lt, ix_toInt ha, ix_toInt hb]; omega
theorem ix_add (a b : Nat) : ix a + ix b = ix (a + b) := by
  simp only [ix, Int32.ofNat_add]
theorem ix_mul (a b : Nat) : ix a * ix b = ix (a * b) := by
  simp only [ix, Int32.ofNat_mul]
theorem ix_sub {a b : Nat} (h : b ≤ a) : ix a - ix b = ix (a - b) := (Int32.ofNat_sub a b h).symm
theorem ix_nlt0 {a : Nat} (ha : a < 2147483648) : ¬ ix a < ix 0 := by
  rw [ix_lt ha (by omega)]; omega
theorem vp_ix {a n : Nat} (ha : a < 2147483648) : vp_in (ix a) n ↔ a < n := by
  simp only [vp_in, ix_nat ha]
  have : ¬ ix a < 0 := ix_nlt0 ha
  simp only [this, false_or]; omega
def mi : Int32 := -1
theorem lm1 : -ix 1 = mi := rfl
theorem lm1' : (-1 : Int32) = mi := rfl
theorem m1_toInt : mi.toInt = -1 := by decide
theorem ix_ne {a : Nat} (ha : a < 2147483648) : ¬ ix a = mi := by
  intro h
  have := congrArg Int32.toInt h
  rw [ix_toInt ha, m1_toInt] at this; omega
theorem ne_ix {a : Nat} (ha : a < 2147483648) : ¬ mi = ix a := fun h => ix_ne ha h.symm
theorem ix_ex {x : Int32} (h : ¬ x < ix 0) : ∃ n, n < 2147483648 ∧ x = ix n := by
  rw [Int32.lt_iff_toInt_lt, ix_toInt (by omega)] at h
  refine ⟨x.toInt.toNat, ?_, ?_⟩
  · have := Int32.toInt_lt x; omega
  · apply Int32.toInt_inj.1
    rw [ix_toInt (by have := Int32.toInt_lt x; omega)]; omega
theorem l0 : (0 : Int32) = ix 0 := rfl
theorem l1 : (1 : Int32) = ix 1 := rfl
theorem l2 : (2 : Int32) = ix 2 := rfl
theorem l3 : (3 : Int32) = ix 3 := rfl
theorem l4 : (4 : Int32) = ix 4 := rfl
theorem l5 : (5 : Int32) = ix 5 := rfl
theorem l6 : (6 : Int32) = ix 6 := rfl
theorem l15 : (15 : Int32) = ix 15 := rfl
theorem l16 : (16 : Int32) = ix 16 := rfl
theorem l24 : (24 : Int32) = ix 24 := rfl
theorem l30 : (30 : Int32) = ix 30 := rfl
theorem l99 : (99 : Int32) = ix 99 := rfl
theorem l100 : (100 : Int32) = ix 100 := rfl
theorem l200 : (200 : Int32) = ix 200 := rfl
theorem l385 : (385 : Int32) = ix 385 := rfl
theorem nar0 : vp_nar .boolean (0 : Int32) = ix 0 := by decide
theorem nar1 : vp_nar .boolean (1 : Int32) = ix 1 := by decide
theorem nar0' : vp_nar .boolean (ix 0) = ix 0 := by decide
theorem nar1' : vp_nar .boolean (ix 1) = ix 1 := by decide
theorem or00 : ix 0 ||| ix 0 = ix 0 := by decide
theorem or01 : ix 0 ||| ix 1 = ix 1 := by decide
theorem or10 : ix 1 ||| ix 0 = ix 1 := by decide
theorem or11 : ix 1 ||| ix 1 = ix 1 := by decide
theorem rI {z : Sta} {k : Nat} {v : Int32} {j : Nat} : (zI z k v).1 j = if j = k then v else z.1 j := rfl
theorem rIA {z : Sta} {k : Nat} {v : Int32} : (zI z k v).2.1 = z.2.1 := rfl
theorem rIL {z : Sta} {k : Nat} {v : Int32} : (zI z k v).2.2 = z.2.2 := rfl
theorem rA {z : Sta} {k : Nat} {f : Nat → Int32} {j : Nat} : (zA z k f).2.1 j = if j = k then f else z.2.1 j := rfl
theorem rAI {z : Sta} {k : Nat} {f : Nat → Int32} : (zA z k f).1 = z.1 := rfl
theorem rAL {z : Sta} {k : Nat} {f : Nat → Int32} : (zA z k f).2.2 = z.2.2 := rfl
theorem rL {z : Sta} {k : Nat} {f : Nat → Int64} {j : Nat} : (zL z k f).2.2 j = if j = k then f else z.2.2 j := rfl
theorem rLI {z : Sta} {k : Nat} {f : Nat → Int64} : (zL z k f).1 = z.1 := rfl
theorem rLA {z : Sta} {k : Nat} {f : Nat → Int64} : (zL z k f).2.1 = z.2.1 := rfl
theorem ru {f : Nat → Int32} {k : Nat} {x : Int32} {j : Nat} : upd f k x j = if j = k then x else f j := rfl
theorem ruL {f : Nat → Int64} {k : Nat} {x : Int64} {j : Nat} : vp_updL f k x j = if j = k then x else f j := rfl
def fr (I A L : List Nat) (z y : Sta) : Prop := (∀ k, k ∉ I → y.1 k = z.1 k) ∧ (∀ k, k ∉ A → y.2.1 k = z.2.1 k) ∧ (∀ k, k ∉ L → y.2.2 k = z.2.2 k)
theorem fr_refl {I A L : List Nat} (z : Sta) : fr I A L z z := ⟨fun _ _ => rfl, fun _ _ => rfl, fun _ _ => rfl⟩
theorem fr_tr {I A L : List Nat} {z y x : Sta} (h : fr I A L z y) (g : fr I A L y x) : fr I A L z x :=
  ⟨fun k hk => (g.1 k hk).trans (h.1 k hk), fun k hk => (g.2.1 k hk).trans (h.2.1 k hk), fun k hk => (g.2.2 k hk).trans (h.2.2 k hk)⟩
theorem fr_I {I A L : List Nat} {z y : Sta} (h : fr I A L z y) {k : Nat} (hk : k ∈ I) (v : Int32) : fr I A L z (zI y k v) := by
  refine fr_tr h ⟨fun j hj => ?_, fun _ _ => rfl, fun _ _ => rfl⟩
  exact if_neg (fun e => hj (by rw [e]; exact hk))
theorem fr_A {I A L : List Nat} {z y : Sta} (h : fr I A L z y) {k : Nat} (hk : k ∈ A) (f : Nat → Int32) : fr I A L z (zA y k f) := by
  refine fr_tr h ⟨fun _ _ => rfl, fun j hj => ?_, fun _ _ => rfl⟩
  exact if_neg (fun e => hj (by rw [e]; exact hk))
theorem fr_L {I A L : List Nat} {z y : Sta} (h : fr I A L z y) {k : Nat} (hk : k ∈ L) (f : Nat → Int64) : fr I A L z (zL y k f) := by
  refine fr_tr h ⟨fun _ _ => rfl, fun _ _ => rfl, fun j hj => ?_⟩
  exact if_neg (fun e => hj (by rw [e]; exact hk))
theorem fr_mono {I A L I' A' L' : List Nat} {z y : Sta} (h : fr I A L z y) (hI : ∀ k ∈ I, k ∈ I') (hA : ∀ k ∈ A, k ∈ A') (hL : ∀ k ∈ L, k ∈ L') : fr I' A' L' z y :=
  ⟨fun k hk => h.1 k (fun e => hk (hI k e)), fun k hk => h.2.1 k (fun e => hk (hA k e)), fun k hk => h.2.2 k (fun e => hk (hL k e))⟩
def isb (v : Int32) (p : Prop) : Prop := (v = ix 1 ∧ p) ∨ (v = ix 0 ∧ ¬ p)
theorem i10 : ¬ ix 1 = ix 0 := by decide
theorem i01 : ¬ ix 0 = ix 1 := by decide
theorem isb_t {v : Int32} {p : Prop} (h : isb v p) (hp : p) : v = ix 1 := by
  rcases h with ⟨h, _⟩ | ⟨_, h⟩
  · exact h
  · exact absurd hp h
theorem isb_f {v : Int32} {p : Prop} (h : isb v p) (hp : ¬ p) : v = ix 0 := by
  rcases h with ⟨_, h⟩ | ⟨h, _⟩
  · exact absurd h hp
  · exact h
theorem isb_z {v : Int32} {p : Prop} (h : isb v p) : v = ix 0 ↔ ¬ p := by
  rcases h with ⟨h, hp⟩ | ⟨h, hp⟩
  · rw [h]; exact ⟨fun e => absurd e i10, fun e => absurd hp e⟩
  · exact ⟨fun _ => hp, fun _ => h⟩
theorem isb_b {v : Int32} {p : Prop} (h : isb v p) : v = ix 0 ∨ v = ix 1 := by
  rcases h with ⟨h, _⟩ | ⟨h, _⟩
  · exact Or.inr h
  · exact Or.inl h
theorem isb_e {v w : Int32} {p q : Prop} (h : isb v p) (g : isb w q) (e : p ↔ q) : v = w := by
  rcases h with ⟨h, hp⟩ | ⟨h, hp⟩
  · rw [h, isb_t g (e.1 hp)]
  · rw [h, isb_f g (fun x => hp (e.2 x))]
theorem isb_c {v : Int32} {p q : Prop} (h : isb v p) (e : p ↔ q) : isb v q := by
  rcases h with ⟨h, hp⟩ | ⟨h, hp⟩
  · exact Or.inl ⟨h, e.1 hp⟩
  · exact Or.inr ⟨h, fun x => hp (e.2 x)⟩
def cnt (f : Nat → Bool) : Nat → Nat
  | 0 => 0
  | n + 1 => cnt f n + (if f n then 1 else 0)
theorem cnt_le (f : Nat → Bool) (n : Nat) : cnt f n ≤ n := by
  induction n with
  | zero => exact Nat.le_refl _
  | succ n ih => simp only [cnt]; split <;> omega
theorem cnt_mono {f g : Nat → Bool} {n : Nat} (h : ∀ i, i < n → f i = true → g i = true) : cnt f n ≤ cnt g n := by
  induction n with
  | zero => exact Nat.le_refl _
  | succ n ih =>
    have ih := ih (fun i hi => h i (by omega))
    have hn := h n (by omega)
    simp only [cnt]
    cases hf : f n <;> cases hg : g n <;> simp_all <;> omega
theorem cnt_lt {f g : Nat → Bool} {n : Nat} (h : ∀ i, i < n → f i = true → g i = true) {k : Nat} (hk : k < n) (hf : f k = false) (hg : g k = true) : cnt f n < cnt g n := by
  induction n with
  | zero => omega
  | succ n ih =>
    have hn := h n (by omega)
    have hm := cnt_mono (f := f) (g := g) (n := n) (fun i hi => h i (by omega))
    simp only [cnt]
    by_cases e : k = n
    · subst e; rw [hf, hg]; simp; omega
    · have ih := ih (fun i hi => h i (by omega)) (by omega)
      cases hf : f n <;> cases hg : g n <;> simp_all <;> omega
def hb (v : Int64) (e : Nat) : Bool := v.toBitVec.getLsbD e
def hw (v : Int32) (e : Nat) : Bool := v.toBitVec.getLsbD e
theorem hb_and (a b : Int64) (e : Nat) : hb (a &&& b) e = (hb a e && hb b e) := by
  simp only [hb, Int64.toBitVec_and, BitVec.getLsbD_and]
theorem hb_or (a b : Int64) (e : Nat) : hb (a ||| b) e = (hb a e || hb b e) := by
  simp only [hb, Int64.toBitVec_or, BitVec.getLsbD_or]
theorem hb_ge (a : Int64) {e : Nat} (h : 64 ≤ e) : hb a e = false := BitVec.getLsbD_of_ge _ _ h
theorem hb_m1 (e : Nat) : hb (-1) e = decide (e < 64) := by
  have : (-1 : Int64).toBitVec = BitVec.allOnes 64 := by decide
  simp only [hb, this, BitVec.getLsbD_allOnes]
theorem hb_not (a : Int64) (e : Nat) : hb (a ^^^ (-1)) e = (decide (e < 64) && !hb a e) := by
  have h1 := hb_m1 e
  simp only [hb] at h1
  simp only [hb, Int64.toBitVec_xor, BitVec.getLsbD_xor, h1]
  by_cases h : e < 64
  · simp [h]
  · simp [h, BitVec.getLsbD_of_ge _ _ (Nat.le_of_not_lt h)]
theorem hb_andn (a b : Int64) (e : Nat) : hb (a &&& (b ^^^ (-1))) e = (hb a e && !hb b e) := by
  rw [hb_and, hb_not]
  by_cases h : e < 64
  · simp [h]
  · simp [hb_ge a (Nat.le_of_not_lt h)]
theorem hb_0 (e : Nat) : hb 0 e = false := by
  simp [hb]
theorem hb_ext {a b : Int64} (h : ∀ e, e < 64 → hb a e = hb b e) : a = b := by
  apply Int64.toBitVec_inj.1
  exact BitVec.eq_of_getLsbD_eq h
theorem hw_ext {a b : Int32} (h : ∀ e, e < 32 → hw a e = hw b e) : a = b := by
  apply Int32.toBitVec_inj.1
  exact BitVec.eq_of_getLsbD_eq h
theorem hb_one {i : Nat} (hi : i < 24) (e : Nat) : hb ((1 : Int64) <<< ((ix i).toInt64 &&& 63)) e = decide (e = i) := by
  rcases Nat.lt_or_ge e 64 with he | he
  · have : ∀ i, i < 24 → ∀ e, e < 64 → hb ((1 : Int64) <<< ((ix i).toInt64 &&& 63)) e = decide (e = i) := by decide +kernel
    exact this i hi e he
  · rw [hb_ge _ he, decide_eq_false]; omega
theorem hb_start {m : Nat} (hm : m ≤ 24) (e : Nat) : hb ((1 : Int64) <<< ((ix m).toInt64 &&& 63) - 1) e = decide (e < m) := by
  rcases Nat.lt_or_ge e 64 with he | he
  · have : ∀ m, m < 25 → ∀ e, e < 64 → hb ((1 : Int64) <<< ((ix m).toInt64 &&& 63) - 1) e = decide (e < m) := by decide +kernel
    exact this m (by omega) e he
  · rw [hb_ge _ he, decide_eq_false]; omega
theorem hw_and (a b : Int32) (e : Nat) : hw (a &&& b) e = (hw a e && hw b e) := by
  simp only [hw, Int32.toBitVec_and, BitVec.getLsbD_and]
theorem hw_or (a b : Int32) (e : Nat) : hw (a ||| b) e = (hw a e || hw b e) := by
  simp only [hw, Int32.toBitVec_or, BitVec.getLsbD_or]
theorem hw_0 (e : Nat) : hw 0 e = false := by
  simp [hw]
theorem hw_ge (a : Int32) {e : Nat} (h : 32 ≤ e) : hw a e = false := BitVec.getLsbD_of_ge _ _ h
theorem hw_one {i : Nat} (hi : i < 24) (e : Nat) : hw ((ix 1) <<< (ix i &&& 31)) e = decide (e = i) := by
  rcases Nat.lt_or_ge e 32 with he | he
  · have : ∀ i, i < 24 → ∀ e, e < 32 → hw ((ix 1) <<< (ix i &&& 31)) e = decide (e = i) := by decide +kernel
    exact this i hi e he
  · rw [hw_ge _ he, decide_eq_false]; omega
theorem hw_andn (a b : Int32) (e : Nat) : hw (a &&& (b ^^^ mi)) e = (hw a e && !hw b e) := by
  have : mi.toBitVec = BitVec.allOnes 32 := by decide
  simp only [hw, Int32.toBitVec_and, Int32.toBitVec_xor, BitVec.getLsbD_and, BitVec.getLsbD_xor, this, BitVec.getLsbD_allOnes]
  by_cases h : e < 32
  · simp [h]
  · simp [BitVec.getLsbD_of_ge _ _ (Nat.le_of_not_lt h)]
theorem sh32 {i : Nat} (hi : i < 24) (v : Int32) : (v >>> (ix i &&& 31)) &&& ix 1 = if hw v i then ix 1 else ix 0 := by
  have h1 : (ix i &&& 31).toBitVec.smod 32 = BitVec.ofNat 32 i := by
    have : ∀ i, i < 24 → (ix i &&& 31).toBitVec.smod 32 = BitVec.ofNat 32 i := by decide +kernel
    exact this i hi
  apply hw_ext
  intro e he
  have h2 : ∀ e, e < 32 → hw (ix 1) e = decide (e = 0) := by decide +kernel
  have h3 : ∀ e, e < 32 → hw (ix 0) e = false := by decide +kernel
  rw [hw_and, h2 e he]
  by_cases h0 : e = 0
  · subst h0
    have : hw (v >>> (ix i &&& 31)) 0 = hw v i := by
      simp only [hw, Int32.toBitVec_shiftRight]
      rw [h1]
      simp only [BitVec.sshiftRight', BitVec.getLsbD_sshiftRight, BitVec.toNat_ofNat]
      rw [Nat.mod_eq_of_lt (by omega)]
      simp [show i < 32 by omega]
    rw [this]
    cases hw v i
    · simp [h3]
    · simp [h2]
  · cases hw v i
    · simp [h0, h3 e he]
    · simp [h0, h2 e he]
theorem sh64 {i : Nat} (hi : i < 24) (v : Int64) : (v >>> ((ix i).toInt64 &&& 63)) &&& 1 = if hb v i then 1 else 0 := by
  have h1 : ((ix i).toInt64 &&& 63).toBitVec.smod 64 = BitVec.ofNat 64 i := by
    have : ∀ i, i < 24 → ((ix i).toInt64 &&& 63).toBitVec.smod 64 = BitVec.ofNat 64 i := by decide +kernel
    exact this i hi
  apply hb_ext
  intro e he
  have h2 : ∀ e, e < 64 → hb 1 e = decide (e = 0) := by decide +kernel
  rw [hb_and, h2 e he]
  by_cases h0 : e = 0
  · subst h0
    have : hb (v >>> ((ix i).toInt64 &&& 63)) 0 = hb v i := by
      simp only [hb, Int64.toBitVec_shiftRight]
      rw [h1]
      simp only [BitVec.sshiftRight', BitVec.getLsbD_sshiftRight, BitVec.toNat_ofNat]
      rw [Nat.mod_eq_of_lt (by omega)]
      simp [show i < 64 by omega]
    rw [this]
    cases hb v i
    · simp [hb_0]
    · simp [h2]
  · cases hb v i
    · simp [h0, hb_0]
    · simp [h0, h2 e he]
theorem wide {v : Int64} {w : Int32} (h : ∀ e, e < 24 → hb v e = hw w e) (h1 : ∀ e, 24 ≤ e → hb v e = false) (h2 : ∀ e, 24 ≤ e → hw w e = false) : v = w.toInt64 := by
  apply hb_ext
  intro e he
  have : hb w.toInt64 e = (if e < 32 then hw w e else hw w 31) := by
    simp only [hb, hw, Int32.toBitVec_toInt64, BitVec.getLsbD_signExtend, BitVec.msb_eq_getLsbD_last]
    simp [he]
  rw [this]
  rcases Nat.lt_or_ge e 24 with e1 | e1
  · rw [if_pos (by omega), h e e1]
  · rw [h1 e e1, h2 31 (by omega), h2 e e1]; simp
theorem cmp0 {a b : Int64} : lg_cmp a b = ix 0 ↔ a = b := by
  simp only [lg_cmp]
  constructor
  · intro h
    split at h
    · exact absurd h (by decide)
    · split at h
      · assumption
      · exact absurd h (by decide)
  · intro h; subst h
    rw [if_neg (Int64.lt_irrefl), if_pos rfl]; rfl
def lk (cp gv : Nat → Prop) : Nat → Prop × Prop × Prop
  | 0 => (False, False, False)
  | k + 1 => ((lk cp gv k).1 ∨ gv k, (lk cp gv k).2.1 ∨ (cp k ∧ ¬ (lk cp gv k).1), ((lk cp gv k).2.2 ∨ cp k) ∧ ¬ gv k)
theorem lk_congr {cp gv cp' gv' : Nat → Prop} {n : Nat} (h : ∀ k, k < n → (cp k ↔ cp' k) ∧ (gv k ↔ gv' k)) : lk cp gv n = lk cp' gv' n := by
  induction n with
  | zero => rfl
  | succ n ih =>
    have ih := ih (fun k hk => h k (by omega))
    simp only [lk, ih, propext (h n (by omega)).1, propext (h n (by omega)).2]
end
section
def okS (n : Nat) (s : Int32) : Prop := s = mi ∨ ∃ c, c < n ∧ s = ix c
def Rch (E : Nat → Nat → Prop) (b : Nat) : Prop := ∀ S : Nat → Prop, S 0 → (∀ a c, S a → E a c → S c) → S b
theorem Rch_0 {E : Nat → Nat → Prop} : Rch E 0 := fun _ h _ => h
theorem Rch_s {E : Nat → Nat → Prop} {a c : Nat} (h : Rch E a) (e : E a c) : Rch E c := fun S h0 hs => hs a c (h S h0 hs) e
def J (n : Nat) (E : Nat → Nat → Prop) (r0 : Nat → Int32) (D : Nat → Nat → Prop) (ch : Prop) (r : Nat → Int32) : Prop :=
  (∀ b, b < 16 → r0 b = ix 0 ∨ r0 b = ix 1) ∧ (∀ b, b < 16 → r b = ix 0 ∨ r b = ix 1) ∧ r 0 = ix 1 ∧ (∀ b, b < 16 → r b = ix 1 → Rch E b) ∧ (∀ b, b < 16 → r0 b = ix 1 → r b = ix 1) ∧
  (¬ ch → (∀ b, b < 16 → r b = r0 b) ∧ ∀ a c, a < n → c < n → D a c → r a = ix 1 → r c = ix 1) ∧ (ch → ∃ b, b < 16 ∧ r0 b = ix 0 ∧ r b = ix 1)
theorem J_mono {n : Nat} {E : Nat → Nat → Prop} {r0 r : Nat → Int32} {D D' : Nat → Nat → Prop} {ch : Prop} (h : J n E r0 D ch r) (hD : ∀ a c, a < n → c < n → D' a c → r a = ix 1 → D a c) : J n E r0 D' ch r := by
  obtain ⟨h0, h1, h2, h3, h4, h5, h6⟩ := h
  exact ⟨h0, h1, h2, h3, h4, fun hc => ⟨(h5 hc).1, fun a c ha hcc hd hr => (h5 hc).2 a c ha hcc (hD a c ha hcc hd hr) hr⟩, h6⟩
theorem J_keep {n : Nat} {E : Nat → Nat → Prop} {r0 r : Nat → Int32} {D : Nat → Nat → Prop} {ch : Prop} (h : J n E r0 D ch r) {a : Nat} {s : Int32} (hs : s = mi ∨ ∃ c, c < n ∧ s = ix c ∧ r c = ix 1) (hn : n ≤ 16) : J n E r0 (fun x y => D x y ∨ (x = a ∧ s = ix y)) ch r := by
  obtain ⟨h0, h1, h2, h3, h4, h5, h6⟩ := h
  refine ⟨h0, h1, h2, h3, h4, fun hc => ⟨(h5 hc).1, fun x y hx hy hd hr => ?_⟩, h6⟩
  rcases hd with hd | ⟨rfl, hd⟩
  · exact (h5 hc).2 x y hx hy hd hr
  · rcases hs with hs | ⟨c, hc1, hs, hrc⟩
    · rw [hs] at hd; exact absurd hd (ne_ix (by omega))
    · rw [hs, ix_inj (by omega) (by omega)] at hd; rw [← hd]; exact hrc
theorem J_mark {n : Nat} {E : Nat → Nat → Prop} {r0 r : Nat → Int32} {D D' : Nat → Nat → Prop} {ch : Prop} (h : J n E r0 D ch r) {a c : Nat} (ha : a < 16) (hra : r a = ix 1) (hc : c < n) (hn : n ≤ 16) (he : E a c) (hrc : r c = ix 0) : J n E r0 D' True (upd r c (ix 1)) := by
  obtain ⟨h0, h1, h2, h3, h4, h5, h6⟩ := h
  refine ⟨h0, fun b hb => ?_, ?_, fun b hb hr => ?_, fun b hb hr => ?_, fun hc => absurd trivial hc, fun _ => ⟨c, by omega, ?_, ?_⟩⟩
  · rw [ru]; split
    · exact Or.inr rfl
    · exact h1 b hb
  · rw [ru]; split
    · rfl
    · exact h2
  · rw [ru] at hr; split at hr
    · next e => rw [e]; exact Rch_s (h3 a ha hra) he
    · exact h3 b hb hr
  · rw [ru]; split
    · rfl
    · exact h4 b hb hr
  · rcases h0 c (by omega) with e | e
    · exact e
    · exact absurd ((h4 c (by omega) e).symm.trans hrc) i10
  · rw [ru, if_pos rfl]
theorem J_start {n : Nat} {E : Nat → Nat → Prop} {r : Nat → Int32} {D : Nat → Nat → Prop} {ch : Prop} {r0 : Nat → Int32} (h : J n E r0 D ch r) : J n E r (fun _ _ => False) False r := by
  obtain ⟨h0, h1, h2, h3, h4, h5, h6⟩ := h
  exact ⟨h1, h1, h2, h3, fun _ _ h => h, fun _ => ⟨fun _ _ => rfl, fun _ _ _ _ h => h.elim⟩, fun h => h.elim⟩
def zer (r : Nat → Int32) : Nat := cnt (fun b => decide (r b = ix 0)) 16
theorem J_zer {n : Nat} {E : Nat → Nat → Prop} {r0 r : Nat → Int32} {D : Nat → Nat → Prop} {ch : Prop} (h : J n E r0 D ch r) : zer r ≤ zer r0 ∧ (ch → zer r < zer r0) := by
  obtain ⟨h0, h1, h2, h3, h4, h5, h6⟩ := h
  have mono : ∀ b, b < 16 → decide (r b = ix 0) = true → decide (r0 b = ix 0) = true := by
    intro b hb hr
    rcases h0 b hb with e | e
    · exact decide_eq_true e
    · have := h4 b hb e; rw [this] at hr; exact absurd (of_decide_eq_true hr) i10
  refine ⟨cnt_mono mono, fun hc => ?_⟩
  obtain ⟨b, hb, e0, e1⟩ := h6 hc
  exact cnt_lt mono hb (decide_eq_false (by rw [e1]; exact i10)) (decide_eq_true e0)
theorem J_end {E : Nat → Nat → Prop} {r : Nat → Int32} (h1 : ∀ b, b < 16 → r b = ix 0 ∨ r b = ix 1) (h2 : r 0 = ix 1) (h3 : ∀ b, b < 16 → r b = ix 1 → Rch E b) (hc : ∀ a c, E a c → r a = ix 1 → r c = ix 1) : ∀ b, b < 16 → isb (r b) (Rch E b) := by
  intro b hb
  rcases h1 b hb with e | e
  · refine Or.inr ⟨e, fun hR => ?_⟩
    have := hR (fun x => r x = ix 1) h2 (fun a c ha he => hc a c he ha)
    exact i10 (this.symm.trans e)
  · exact Or.inl ⟨e, h3 b hb e⟩
theorem s_O_reach {n : Nat} {z : Sta} {K : Int32 → Sta → Prop} {s : Int32} (hn : n ≤ 16) (hs : okS n s) (hb : ∀ b, b < 16 → z.2.1 10 b = ix 0 ∨ z.2.1 10 b = ix 1)
    (h1 : (s = mi ∨ ∃ c, c < n ∧ s = ix c ∧ z.2.1 10 c = ix 1) → K (ix 0) z)
    (h2 : ∀ c, c < n → s = ix c → z.2.1 10 c = ix 0 → K (ix 1) (zA z 10 (upd (z.2.1 10) c (ix 1)))) : wp_O_reach s z K := by
  rcases hs with rfl | ⟨c, hc, rfl⟩
  · simp (disch := omega) only [wp_O_reach, pj_O_reach_14, forall_eq, l0, l1, l2, l3, l4, l5, l6, l15, l16, l24, l30, l99, l100, l200, l385, lm1, ix_ne, ne_ix, ix_nat, vp_ix, ix_inj, ix_le, ix_lt, ix_add, ix_mul, ix_sub, nar0', nar1', or00, or01, or10, or11, rI, rIA, rIL, rA, rAI, rAL, rL, rLI, rLA, ru, ruL, reduceIte, Nat.reduceEqDiff, true_or, or_true, true_and, and_true, false_or, or_false, not_true_eq_false, not_false_eq_true, false_implies, true_implies, implies_true, i10, i01]
    exact h1 (Or.inl rfl)
  · simp (disch := omega) only [wp_O_reach, pj_O_reach_14, forall_eq, l0, l1, l2, l3, l4, l5, l6, l15, l16, l24, l30, l99, l100, l200, l385, lm1, ix_ne, ne_ix, ix_nat, vp_ix, ix_inj, ix_le, ix_lt, ix_add, ix_mul, ix_sub, nar0', nar1', or00, or01, or10, or11, rI, rIA, rIL, rA, rAI, rAL, rL, rLI, rLA, ru, ruL, reduceIte, Nat.reduceEqDiff, true_or, or_true, true_and, and_true, false_or, or_false, not_true_eq_false, not_false_eq_true, false_implies, true_implies, implies_true, i10, i01]
    refine ⟨by omega, fun h0 => ⟨by omega, h2 c hc rfl h0⟩, fun h0 => h1 (Or.inr ⟨c, hc, rfl, ?_⟩)⟩
    rcases hb c (by omega) with e | e
    · exact absurd e h0
    · exact e
theorem s_O_findReached {n : Nat} {E : Nat → Nat → Prop} {z : Sta} {K : Sta → Prop} (hn : n ≤ 16) (hn0 : 0 < n) (hN : z.1 2 = ix n) (hE : ∀ a c, E a c → a < n ∧ c < n)
    (hf : ∀ a, a < n → okS n (z.2.1 5 a) ∧ okS n (z.2.1 6 a)) (hfE : ∀ a c, a < n → c < n → (E a c ↔ z.2.1 5 a = ix c ∨ z.2.1 6 a = ix c))
    (hK : ∀ y, fr [] [10] [] z y → (∀ b, b < 16 → isb (y.2.1 10 b) (Rch E b)) → K y) : wp_O_findReached z K := by
  have inner : ∀ (r0 : Nat → Int32) (R : Int32 → Int32 → Sta → Prop) (x2 : Int32) (k i : Nat) (ch : Prop) (x1 : Int32) (y : Sta), i + k = n → fr [] [10] [] z y → isb x1 ch →
      J n E r0 (fun a c => a < i ∧ E a c) ch (y.2.1 10) →
      (∀ (ch : Prop) (x1 : Int32) (y : Sta), fr [] [10] [] z y → isb x1 ch → J n E r0 E ch (y.2.1 10) → R x1 (x2 + ix 1) y) →
      lp_O_findReached_47 K R (k + 1) x1 x2 (ix i) y := by
    intro r0 R x2 k
    induction k with
    | zero =>
      intro i ch x1 y hik hfr hx hJ hR
      have hN' : y.1 2 = ix n := (hfr.1 2 (by decide)).trans hN
      simp (disch := omega) only [lp_O_findReached_47, hN', forall_eq, l0, l1, l2, l3, l4, l5, l6, l15, l16, l24, l30, l99, l100, l200, l385, lm1, ix_ne, ne_ix, ix_nat, vp_ix, ix_inj, ix_le, ix_lt, ix_add, ix_mul, ix_sub, nar0', nar1', or00, or01, or10, or11, rI, rIA, rIL, rA, rAI, rAL, rL, rLI, rLA, ru, ruL, reduceIte, Nat.reduceEqDiff, true_or, or_true, true_and, and_true, false_or, or_false, not_true_eq_false, not_false_eq_true, false_implies, true_implies, implies_true, i10, i01]
      refine ⟨fun _ => hR ch x1 y hfr hx (J_mono hJ fun a c ha _ h _ => ⟨by omega, h⟩), fun h => absurd (by omega) h⟩
    | succ k ih =>
      intro i ch x1 y hik hfr hx hJ hR
      have hN' : y.1 2 = ix n := (hfr.1 2 (by decide)).trans hN
      have h5 : y.2.1 5 = z.2.1 5 := hfr.2.1 5 (by decide)
      have h6 : y.2.1 6 = z.2.1 6 := hfr.2.1 6 (by decide)
      have hb := hJ.2.1
      rw [lp_O_findReached_47]
      simp (disch := omega) only [pj_O_findReached_99, hN', h5, forall_eq, l0, l1, l2, l3, l4, l5, l6, l15, l16, l24, l30, l99, l100, l200, l385, lm1, ix_ne, ne_ix, ix_nat, vp_ix, ix_inj, ix_le, ix_lt, ix_add, ix_mul, ix_sub, nar0', nar1', or00, or01, or10, or11, rI, rIA, rIL, rA, rAI, rAL, rL, rLI, rLA, ru, ruL, reduceIte, Nat.reduceEqDiff, true_or, or_true, true_and, and_true, false_or, or_false, not_true_eq_false, not_false_eq_true, false_implies, true_implies, implies_true, i10, i01]
      refine ⟨fun h => absurd h (by omega), fun _ => ⟨by omega, fun h0 => ?_, fun h0 => ⟨by omega, ?_⟩⟩⟩
      · refine ih (i + 1) ch x1 y (by omega) hfr hx (J_mono hJ fun a c ha _ h hr => ⟨?_, h.2⟩) hR
        rcases Nat.lt_or_ge a i with e | e
        · exact e
        · have : a = i := by omega
          rw [this, h0] at hr; exact absurd hr i01
      · have hr : y.2.1 10 i = ix 1 := (hb i (by omega)).resolve_left h0
        have step : ∀ (s : Int32) (ch : Prop) (x1 : Int32) (y : Sta) (D : Nat → Nat → Prop) (K2 : Int32 → Sta → Prop), okS n s → (∀ c, c < n → s = ix c → E i c) → fr [] [10] [] z y → isb x1 ch → J n E r0 D ch (y.2.1 10) → y.2.1 10 i = ix 1 →
            (∀ (ch : Prop) (w : Int32) (y : Sta), fr [] [10] [] z y → isb (x1 ||| w) ch → J n E r0 (fun a c => D a c ∨ (a = i ∧ s = ix c)) ch (y.2.1 10) → y.2.1 10 i = ix 1 → K2 w y) → wp_O_reach s y K2 := by
          intro s ch x1 y D K2 hs hsE hfr hx hJ hr hK2
          refine s_O_reach hn hs hJ.2.1 (fun h => ?_) (fun c hc hsc hrc => ?_)
          · refine hK2 ch _ y hfr ?_ (J_keep hJ h hn) hr
            rcases hx with ⟨e, hc⟩ | ⟨e, hc⟩
            · rw [e, or10]; exact Or.inl ⟨rfl, hc⟩
            · rw [e, or00]; exact Or.inr ⟨rfl, hc⟩
          · refine hK2 True _ _ (fr_A hfr (by decide) _) ?_ ?_ ?_
            · rcases isb_b hx with e | e <;> rw [e]
              · rw [or01]; exact Or.inl ⟨rfl, trivial⟩
              · rw [or11]; exact Or.inl ⟨rfl, trivial⟩
            · rw [rA, if_pos rfl]; exact J_mark hJ (a := i) (by omega) hr hc hn (hsE c hc hsc) hrc
            · rw [rA, if_pos rfl, ru]; split
              · rfl
              · exact hr
        refine step _ ch x1 y _ _ (hf i (by omega)).1 (fun c hc e => (hfE i c (by omega) hc).2 (Or.inl e)) hfr hx hJ hr (fun ch1 w1 y1 hfr1 hx1 hJ1 hr1 => ?_)
        have h6' : y1.2.1 6 = z.2.1 6 := hfr1.2.1 6 (by decide)
        refine ⟨by omega, ?_⟩
        rw [h6']
        refine step _ ch1 _ y1 _ _ (hf i (by omega)).2 (fun c hc e => (hfE i c (by omega) hc).2 (Or.inr e)) hfr1 hx1 hJ1 hr1 (fun ch2 w2 y2 hfr2 hx2 hJ2 hr2 => ?_)
        refine ih (i + 1) ch2 _ y2 (by omega) hfr2 hx2 (J_mono hJ2 fun a c ha hc h _ => ?_) hR
        rcases Nat.lt_or_ge a i with e | e
        · exact Or.inl (Or.inl ⟨e, h.2⟩)
        · have e2 : a = i := by omega
          subst e2
          rcases (hfE a c ha hc).1 h.2 with e | e
          · exact Or.inl (Or.inr ⟨rfl, e⟩)
          · exact Or.inr ⟨rfl, e⟩
  have outer : ∀ (k i : Nat) (x1 : Int32) (ch : Prop) (y : Sta) (r0 : Nat → Int32), i + k = 16 → fr [] [10] [] z y → isb x1 ch → J n E r0 E ch (y.2.1 10) → (ch → zer (y.2.1 10) + i ≤ 15) → lp_O_findReached_33 K (k + 1) x1 (ix i) y := by
    intro k
    induction k with
    | zero =>
      intro i x1 ch y r0 hik hfr hx hJ hm
      rw [lp_O_findReached_33]
      simp (disch := omega) only [pj_O_findReached_111, forall_eq, l0, l1, l2, l3, l4, l5, l6, l15, l16, l24, l30, l99, l100, l200, l385, lm1, ix_ne, ne_ix, ix_nat, vp_ix, ix_inj, ix_le, ix_lt, ix_add, ix_mul, ix_sub, nar0', nar1', or00, or01, or10, or11, rI, rIA, rIL, rA, rAI, rAL, rL, rLI, rLA, ru, ruL, reduceIte, Nat.reduceEqDiff, true_or, or_true, true_and, and_true, false_or, or_false, not_true_eq_false, not_false_eq_true, false_implies, true_implies, implies_true, i10, i01]
      refine ⟨fun h0 => ?_, fun h0 => ⟨fun _ => ?_, fun h => absurd (by omega) h⟩⟩
      · have hc := (isb_z hx).1 h0
        exact hK y hfr (J_end hJ.2.1 hJ.2.2.1 hJ.2.2.2.1 (fun a c he hr => (hJ.2.2.2.2.2.1 hc).2 a c (hE a c he).1 (hE a c he).2 he hr))
      · have hc : ch := Classical.byContradiction fun h => h0 ((isb_z hx).2 h)
        have := hm hc; omega
    | succ k ih =>
      intro i x1 ch y r0 hik hfr hx hJ hm
      rw [lp_O_findReached_33]
      simp (disch := omega) only [pj_O_findReached_111, forall_eq, l0, l1, l2, l3, l4, l5, l6, l15, l16, l24, l30, l99, l100, l200, l385, lm1, ix_ne, ne_ix, ix_nat, vp_ix, ix_inj, ix_le, ix_lt, ix_add, ix_mul, ix_sub, nar0', nar1', or00, or01, or10, or11, rI, rIA, rIL, rA, rAI, rAL, rL, rLI, rLA, ru, ruL, reduceIte, Nat.reduceEqDiff, true_or, or_true, true_and, and_true, false_or, or_false, not_true_eq_false, not_false_eq_true, false_implies, true_implies, implies_true, i10, i01]
      refine ⟨fun h0 => ?_, fun h0 => ⟨fun h => absurd h (by omega), fun _ => ⟨n + 1, ?_⟩⟩⟩
      · have hc := (isb_z hx).1 h0
        exact hK y hfr (J_end hJ.2.1 hJ.2.2.1 hJ.2.2.2.1 (fun a c he hr => (hJ.2.2.2.2.2.1 hc).2 a c (hE a c he).1 (hE a c he).2 he hr))
      · have hc : ch := Classical.byContradiction fun h => h0 ((isb_z hx).2 h)
        refine inner (y.2.1 10) _ _ n 0 False (ix 0) y (by omega) hfr (Or.inr ⟨rfl, fun h => h⟩) (J_mono (J_start hJ) fun a c _ _ h _ => absurd h.1 (by omega)) (fun ch1 x1 y1 hfr1 hx1 hJ1 => ?_)
        rw [ix_add]
        refine ih (i + 1) x1 ch1 y1 _ (by omega) hfr1 hx1 hJ1 (fun h => ?_)
        have := (J_zer hJ1).2 h; have := hm hc; omega
  have init : ∀ (k i : Nat) (y : Sta), i + k = 16 → fr [] [10] [] z y → (∀ b, b < i → y.2.1 10 b = if b = 0 then ix 1 else ix 0) → lp_O_findReached_2 K (k + 1) (ix i) y := by
    intro k
    induction k with
    | zero =>
      intro i y hik hfr hb
      rw [lp_O_findReached_2]
      simp (disch := omega) only [forall_eq, l0, l1, l2, l3, l4, l5, l6, l15, l16, l24, l30, l99, l100, l200, l385, lm1, ix_ne, ne_ix, ix_nat, vp_ix, ix_inj, ix_le, ix_lt, ix_add, ix_mul, ix_sub, nar0', nar1', or00, or01, or10, or11, rI, rIA, rIL, rA, rAI, rAL, rL, rLI, rLA, ru, ruL, reduceIte, Nat.reduceEqDiff, true_or, or_true, true_and, and_true, false_or, or_false, not_true_eq_false, not_false_eq_true, false_implies, true_implies, implies_true, i10, i01]
      refine ⟨fun _ => ⟨17, ?_⟩, fun h => absurd (by omega) h⟩
      have hbb : ∀ b, b < 16 → y.2.1 10 b = ix 0 ∨ y.2.1 10 b = ix 1 := by
        intro b hb2; rw [hb b (by omega)]; split
        · exact Or.inr rfl
        · exact Or.inl rfl
      have h0 : y.2.1 10 0 = ix 1 := by rw [hb 0 (by omega)]; rfl
      have hz : zer (y.2.1 10) ≤ 15 := by
        have : zer (y.2.1 10) < cnt (fun _ => true) 16 := cnt_lt (fun _ _ _ => rfl) (k := 0) (by omega) (decide_eq_false (by rw [h0]; exact i10)) rfl
        have := cnt_le (fun _ => true) 16; omega
      refine outer 16 0 (ix 1) True y (fun b => if b = 0 then ix 0 else y.2.1 10 b) rfl hfr (Or.inl ⟨rfl, trivial⟩) ⟨?_, hbb, h0, ?_, ?_, fun h => absurd trivial h, fun _ => ⟨0, by omega, rfl, h0⟩⟩ (fun _ => by omega)
      · intro b hb2; dsimp only; split
        · exact Or.inl rfl
        · exact hbb b hb2
      · intro b hb2 hr; rw [hb b (by omega)] at hr; split at hr
        · next e => rw [e]; exact Rch_0
        · exact absurd hr i01
      · intro b hb2 hr; dsimp only at hr; split at hr
        · exact absurd hr i01
        · exact hr
    | succ k ih =>
      intro i y hik hfr hb
      rw [lp_O_findReached_2]
      simp (disch := omega) only [pj_O_findReached_22, forall_eq, l0, l1, l2, l3, l4, l5, l6, l15, l16, l24, l30, l99, l100, l200, l385, lm1, ix_ne, ne_ix, ix_nat, vp_ix, ix_inj, ix_le, ix_lt, ix_add, ix_mul, ix_sub, nar0', nar1', or00, or01, or10, or11, rI, rIA, rIL, rA, rAI, rAL, rL, rLI, rLA, ru, ruL, reduceIte, Nat.reduceEqDiff, true_or, or_true, true_and, and_true, false_or, or_false, not_true_eq_false, not_false_eq_true, false_implies, true_implies, implies_true, i10, i01]
      refine ⟨fun h => absurd h (by omega), fun _ => ⟨fun h => ⟨by omega, ?_⟩, fun h => ⟨by omega, ?_⟩⟩⟩
      · refine ih (i + 1) _ (by omega) (fr_A hfr (by decide) _) (fun b hb2 => ?_)
        rw [rA, if_pos rfl, ru]; split
        · next e => rw [e, if_neg h]
        · exact hb b (by omega)
      · refine ih (i + 1) _ (by omega) (fr_A hfr (by decide) _) (fun b hb2 => ?_)
        rw [rA, if_pos rfl, ru]; split
        · next e => rw [e, if_pos h]
        · exact hb b (by omega)
  exact ⟨17, init 16 0 z rfl (fr_refl z) (fun b h => absurd h (by omega))⟩
def nx (f : Nat → Int32) (a k : Nat) : Int32 := if k = 0 then (if f (4 * a) = ix 0 then mi else f (4 * a + 2)) else (if f (4 * a) = ix 2 ∧ ¬ f (4 * a + 3) = f (4 * a + 2) then f (4 * a + 3) else mi)
theorem s_M_next {z : Sta} {K : Int32 → Sta → Prop} {a k : Nat} (ha : a < 16) (hk : k < 2) (h : K (nx (z.2.1 17) a k) z) : wp_M_next (ix a) (ix k) z K := by
  simp only [nx] at h
  simp (disch := omega) only [wp_M_next, pj_M_next_73, pj_M_next_74, pj_M_next_31, forall_eq, l0, l1, l2, l3, l4, l5, l6, l15, l16, l24, l30, l99, l100, l200, l385, lm1, ix_ne, ne_ix, ix_nat, vp_ix, ix_inj, ix_le, ix_lt, ix_add, ix_mul, ix_sub, nar0', nar1', or00, or01, or10, or11, rI, rIA, rIL, rA, rAI, rAL, rL, rLI, rLA, ru, ruL, reduceIte, Nat.reduceEqDiff, true_or, or_true, true_and, and_true, false_or, or_false, not_true_eq_false, not_false_eq_true, false_implies, true_implies, implies_true, i10, i01]
  refine ⟨by omega, fun h0 => ?_, fun h0 => ?_⟩
  · rw [if_neg h0] at h
    refine ⟨fun h1 => ?_, fun h1 => ⟨by omega, by omega, fun h2 => ?_, fun h2 => ⟨by omega, ?_⟩⟩⟩
    · rw [if_neg (fun e => h1 e.1)] at h; exact h
    · rw [if_neg (fun e => e.2 h2)] at h; exact h
    · rw [if_pos ⟨h1, h2⟩] at h; exact h
  · rw [if_pos h0] at h
    refine ⟨fun h1 => ⟨by omega, ?_⟩, fun h1 => ?_⟩
    · rw [if_neg h1] at h; exact h
    · rw [if_pos h1] at h; exact h
theorem s_M_edge {z : Sta} {K : Int32 → Sta → Prop} {a : Nat} {x2 : Int32} (ha : a < 16) (h : ∀ v, isb v (¬ z.2.1 21 a = ix 0 ∧ (nx (z.2.1 17) a 0 = x2 ∨ nx (z.2.1 17) a 1 = x2)) → K v z) : wp_M_edge (ix a) x2 z K := by
  simp (disch := omega) only [wp_M_edge, pj_M_edge_33, pj_M_edge_34, pj_M_edge_29, forall_eq, l0, l1, l2, l3, l4, l5, l6, l15, l16, l24, l30, l99, l100, l200, l385, lm1, ix_ne, ne_ix, ix_nat, vp_ix, ix_inj, ix_le, ix_lt, ix_add, ix_mul, ix_sub, nar0', nar1', or00, or01, or10, or11, rI, rIA, rIL, rA, rAI, rAL, rL, rLI, rLA, ru, ruL, reduceIte, Nat.reduceEqDiff, true_or, or_true, true_and, and_true, false_or, or_false, not_true_eq_false, not_false_eq_true, false_implies, true_implies, implies_true, i10, i01]
  refine ⟨by omega, fun h0 => h _ (Or.inr ⟨rfl, fun e => e.1 h0⟩), fun h0 => ?_⟩
  refine s_M_next ha (by omega) ⟨fun h1 => h _ (Or.inl ⟨rfl, h0, Or.inl h1⟩), fun h1 => s_M_next ha (by omega) ⟨fun h2 => h _ (Or.inr ⟨rfl, fun e => ?_⟩), fun h2 => h _ (Or.inl ⟨rfl, h0, Or.inr h2⟩)⟩⟩
  rcases e.2 with e | e
  · exact h1 e
  · exact h2 e
theorem s_M_reach {n : Nat} {E : Nat → Nat → Prop} {z : Sta} {K : Sta → Prop} (hn : n ≤ 16) (hn0 : 0 < n) (hN : z.1 8 = ix n) (hE : ∀ a c, E a c → a < n ∧ c < n)
    (hf : ∀ a, a < n → okS n (nx (z.2.1 17) a 0) ∧ okS n (nx (z.2.1 17) a 1)) (hfE : ∀ a c, a < n → c < n → (E a c ↔ nx (z.2.1 17) a 0 = ix c ∨ nx (z.2.1 17) a 1 = ix c))
    (hK : ∀ y, fr [] [21] [] z y → (∀ b, b < 16 → isb (y.2.1 21 b) (Rch E b)) → K y) : wp_M_reach z K := by
  have okk : ∀ a k, a < n → k < 2 → okS n (nx (z.2.1 17) a k) ∧ (∀ c, c < n → nx (z.2.1 17) a k = ix c → E a c) := by
    intro a k ha hk
    rcases Nat.lt_or_ge k 1 with e | e
    · have : k = 0 := by omega
      subst this; exact ⟨(hf a ha).1, fun c hc h => (hfE a c ha hc).2 (Or.inl h)⟩
    · have : k = 1 := by omega
      subst this; exact ⟨(hf a ha).2, fun c hc h => (hfE a c ha hc).2 (Or.inr h)⟩
  have succs : ∀ (r0 : Nat → Int32) (R : Int32 → Int32 → Sta → Prop) (x1 : Int32) (i : Nat) (D : Nat → Nat → Prop), i < n → ∀ (k j : Nat) (ch : Prop) (y : Sta), j + k = 2 → fr [] [21] [] z y →
      J n E r0 (fun a c => D a c ∨ (a = i ∧ ∃ t, t < j ∧ nx (z.2.1 17) i t = ix c)) ch (y.2.1 21) →
      (∀ (ch : Prop) (y : Sta), fr [] [21] [] z y → J n E r0 (fun a c => D a c ∨ (a = i ∧ E i c)) ch (y.2.1 21) → R x1 (ix (i + 1)) y) →
      lp_M_reach_51 K R (k + 1) x1 (ix i) (ix j) y := by
    intro r0 R x1 i D hi k
    induction k with
    | zero =>
      intro j ch y hjk hfr hJ hR
      rw [lp_M_reach_51]
      simp (disch := omega) only [forall_eq, l0, l1, l2, l3, l4, l5, l6, l15, l16, l24, l30, l99, l100, l200, l385, lm1, ix_ne, ne_ix, ix_nat, vp_ix, ix_inj, ix_le, ix_lt, ix_add, ix_mul, ix_sub, nar0', nar1', or00, or01, or10, or11, rI, rIA, rIL, rA, rAI, rAL, rL, rLI, rLA, ru, ruL, reduceIte, Nat.reduceEqDiff, true_or, or_true, true_and, and_true, false_or, or_false, not_true_eq_false, not_false_eq_true, false_implies, true_implies, implies_true, i10, i01]
      refine ⟨fun _ => hR ch y hfr (J_mono hJ fun a c ha hc h _ => ?_), fun h => absurd (by omega) h⟩
      rcases h with h | ⟨h, he⟩
      · exact Or.inl h
      · rcases (hfE i c hi hc).1 he with e | e
        · exact Or.inr ⟨h, 0, by omega, e⟩
        · exact Or.inr ⟨h, 1, by omega, e⟩
    | succ k ih =>
      intro j ch y hjk hfr hJ hR
      have h17 : y.2.1 17 = z.2.1 17 := hfr.2.1 17 (by decide)
      have hb := hJ.2.1
      rw [lp_M_reach_51]
      simp (disch := omega) only [pj_M_reach_75, pj_M_reach_90, forall_eq, l0, l1, l2, l3, l4, l5, l6, l15, l16, l24, l30, l99, l100, l200, l385, lm1, ix_ne, ne_ix, ix_nat, vp_ix, ix_inj, ix_le, ix_lt, ix_add, ix_mul, ix_sub, nar0', nar1', or00, or01, or10, or11, rI, rIA, rIL, rA, rAI, rAL, rL, rLI, rLA, ru, ruL, reduceIte, Nat.reduceEqDiff, true_or, or_true, true_and, and_true, false_or, or_false, not_true_eq_false, not_false_eq_true, false_implies, true_implies, implies_true, i10, i01]
      have lt0 : mi < ix 0 := by decide
      refine ⟨fun h => absurd h (by omega), fun _ => ⟨by omega, fun h0 => ⟨fun _ => ?_, fun h => absurd lt0 h⟩, fun h0 => s_M_next (by omega) (by omega) ?_⟩⟩
      · refine ih (j + 1) ch y (by omega) hfr (J_mono hJ fun a c ha hc h hr => ?_) hR
        rcases h with h | ⟨h, _⟩
        · exact Or.inl h
        · rw [h, h0] at hr; exact absurd hr i01
      · have hr : y.2.1 21 i = ix 1 := (hb i (by omega)).resolve_left h0
        rw [h17]
        obtain ⟨hok, hoE⟩ := okk i j hi (by omega)
        have hD : ∀ (r : Nat → Int32) (ch : Prop), J n E r0 (fun a c => (D a c ∨ (a = i ∧ ∃ t, t < j ∧ nx (z.2.1 17) i t = ix c)) ∨ (a = i ∧ nx (z.2.1 17) i j = ix c)) ch r → J n E r0 (fun a c => D a c ∨ (a = i ∧ ∃ t, t < j + 1 ∧ nx (z.2.1 17) i t = ix c)) ch r := by
          intro r ch h
          refine J_mono h fun a c ha hc h2 _ => ?_
          rcases h2 with h2 | ⟨h2, t, ht, e⟩
          · exact Or.inl (Or.inl h2)
          · rcases Nat.lt_or_ge t j with e1 | e1
            · exact Or.inl (Or.inr ⟨h2, t, e1, e⟩)
            · have : t = j := by omega
              subst this; exact Or.inr ⟨h2, e⟩
        rcases hok with hm | ⟨c, hc, hm⟩
        · rw [hm]
          refine ⟨fun _ => ?_, fun h => absurd lt0 h⟩
          exact ih (j + 1) ch y (by omega) hfr (hD _ _ (J_keep hJ (Or.inl hm) hn)) hR
        · rw [hm]
          simp (disch := omega) only [forall_eq, l0, l1, l2, l3, l4, l5, l6, l15, l16, l24, l30, l99, l100, l200, l385, lm1, ix_ne, ne_ix, ix_nat, vp_ix, ix_inj, ix_le, ix_lt, ix_add, ix_mul, ix_sub, nar0', nar1', or00, or01, or10, or11, rI, rIA, rIL, rA, rAI, rAL, rL, rLI, rLA, ru, ruL, reduceIte, Nat.reduceEqDiff, true_or, or_true, true_and, and_true, false_or, or_false, not_true_eq_false, not_false_eq_true, false_implies, true_implies, implies_true, i10, i01]
          refine ⟨fun h => absurd h (by omega), fun _ => ⟨by omega, ?_⟩⟩
          rcases hb c (by omega) with e | e
          · refine ih (j + 1) True _ (by omega) (fr_A hfr (by decide) _) ?_ hR
            rw [rA, if_pos rfl]
            exact J_mark hJ (a := i) (by omega) hr hc hn (hoE c hc hm) e
          · refine ih (j + 1) ch _ (by omega) (fr_A hfr (by decide) _) ?_ hR
            have : upd (y.2.1 21) c (ix 1) = y.2.1 21 := by
              funext b; rw [ru]; split
              · next e1 => rw [e1, e]
              · rfl
            rw [rA, if_pos rfl, this]
            exact hD _ _ (J_keep hJ (Or.inr ⟨c, hc, hm, e⟩) hn)
  have inner : ∀ (r0 : Nat → Int32) (R : Int32 → Sta → Prop) (x1 : Int32) (k i : Nat) (ch : Prop) (y : Sta), i + k = n → fr [] [21] [] z y →
      J n E r0 (fun a c => a < i ∧ E a c) ch (y.2.1 21) →
      (∀ (ch : Prop) (y : Sta), fr [] [21] [] z y → J n E r0 E ch (y.2.1 21) → R (x1 + ix 1) y) → lp_M_reach_41 K R (k + 1) x1 (ix i) y := by
    intro r0 R x1 k
    induction k with
    | zero =>
      intro i ch y hik hfr hJ hR
      have hN' : y.1 8 = ix n := (hfr.1 8 (by decide)).trans hN
      rw [lp_M_reach_41]
      simp (disch := omega) only [hN', forall_eq, l0, l1, l2, l3, l4, l5, l6, l15, l16, l24, l30, l99, l100, l200, l385, lm1, ix_ne, ne_ix, ix_nat, vp_ix, ix_inj, ix_le, ix_lt, ix_add, ix_mul, ix_sub, nar0', nar1', or00, or01, or10, or11, rI, rIA, rIL, rA, rAI, rAL, rL, rLI, rLA, ru, ruL, reduceIte, Nat.reduceEqDiff, true_or, or_true, true_and, and_true, false_or, or_false, not_true_eq_false, not_false_eq_true, false_implies, true_implies, implies_true, i10, i01]
      exact ⟨fun _ => hR ch y hfr (J_mono hJ fun a c ha _ h _ => ⟨by omega, h⟩), fun h => absurd (by omega) h⟩
    | succ k ih =>
      intro i ch y hik hfr hJ hR
      have hN' : y.1 8 = ix n := (hfr.1 8 (by decide)).trans hN
      rw [lp_M_reach_41]
      simp (disch := omega) only [hN', forall_eq, l0, l1, l2, l3, l4, l5, l6, l15, l16, l24, l30, l99, l100, l200, l385, lm1, ix_ne, ne_ix, ix_nat, vp_ix, ix_inj, ix_le, ix_lt, ix_add, ix_mul, ix_sub, nar0', nar1', or00, or01, or10, or11, rI, rIA, rIL, rA, rAI, rAL, rL, rLI, rLA, ru, ruL, reduceIte, Nat.reduceEqDiff, true_or, or_true, true_and, and_true, false_or, or_false, not_true_eq_false, not_false_eq_true, false_implies, true_implies, implies_true, i10, i01]
      refine ⟨fun h => absurd h (by omega), fun _ => ⟨3, succs r0 _ x1 i (fun a c => a < i ∧ E a c) (by omega) 2 0 ch y rfl hfr (J_mono hJ fun a c ha hc h _ => ?_) (fun ch1 y1 hfr1 hJ1 => ih (i + 1) ch1 y1 (by omega) hfr1 (J_mono hJ1 fun a c ha hc h _ => ?_) hR)⟩⟩
      · rcases h with h | ⟨_, t, ht, _⟩
        · exact h
        · omega
      · rcases Nat.lt_or_ge a i with e | e
        · exact Or.inl ⟨e, h.2⟩
        · have : a = i := by omega
          subst this; exact Or.inr ⟨rfl, h.2⟩
  have outer : ∀ (k i : Nat) (ch : Prop) (y : Sta) (r0 : Nat → Int32) (D : Nat → Nat → Prop), i + k = n → fr [] [21] [] z y → J n E r0 D ch (y.2.1 21) → ((∀ a c, E a c → y.2.1 21 a = ix 1 → y.2.1 21 c = ix 1) ∨ zer (y.2.1 21) + i ≤ 15) → lp_M_reach_31 K (k + 1) (ix i) y := by
    intro k
    induction k with
    | zero =>
      intro i ch y r0 D hik hfr hJ hm
      have hN' : y.1 8 = ix n := (hfr.1 8 (by decide)).trans hN
      rw [lp_M_reach_31]
      simp (disch := omega) only [hN', forall_eq, l0, l1, l2, l3, l4, l5, l6, l15, l16, l24, l30, l99, l100, l200, l385, lm1, ix_ne, ne_ix, ix_nat, vp_ix, ix_inj, ix_le, ix_lt, ix_add, ix_mul, ix_sub, nar0', nar1', or00, or01, or10, or11, rI, rIA, rIL, rA, rAI, rAL, rL, rLI, rLA, ru, ruL, reduceIte, Nat.reduceEqDiff, true_or, or_true, true_and, and_true, false_or, or_false, not_true_eq_false, not_false_eq_true, false_implies, true_implies, implies_true, i10, i01]
      refine ⟨fun _ => ?_, fun h => absurd (by omega) h⟩
      rcases hm with hm | hm
      · exact hK y hfr (J_end hJ.2.1 hJ.2.2.1 hJ.2.2.2.1 hm)
      · have hge : cnt (fun b => decide (n ≤ b)) 16 ≤ zer (y.2.1 21) := cnt_mono (fun b hb hd => by
          rcases hJ.2.1 b hb with e | e
          · exact decide_eq_true e
          · have := hJ.2.2.2.1 b hb e (fun x => x < n) hn0 (fun a c _ he => (hE a c he).2)
            have := of_decide_eq_true hd; omega)
        have hc : ∀ m, m ≤ 16 → cnt (fun b => decide (n ≤ b)) m = m - n := by
          intro m
          induction m with
          | zero => intro _; simp only [cnt]; omega
          | succ m ih =>
            intro hm; simp only [cnt, ih (by omega), decide_eq_true_eq]; split <;> omega
        have := hc 16 (by omega); omega
    | succ k ih =>
      intro i ch y r0 D hik hfr hJ hm
      have hN' : y.1 8 = ix n := (hfr.1 8 (by decide)).trans hN
      rw [lp_M_reach_31]
      simp (disch := omega) only [hN', forall_eq, l0, l1, l2, l3, l4, l5, l6, l15, l16, l24, l30, l99, l100, l200, l385, lm1, ix_ne, ne_ix, ix_nat, vp_ix, ix_inj, ix_le, ix_lt, ix_add, ix_mul, ix_sub, nar0', nar1', or00, or01, or10, or11, rI, rIA, rIL, rA, rAI, rAL, rL, rLI, rLA, ru, ruL, reduceIte, Nat.reduceEqDiff, true_or, or_true, true_and, and_true, false_or, or_false, not_true_eq_false, not_false_eq_true, false_implies, true_implies, implies_true, i10, i01]
      refine ⟨fun h => absurd h (by omega), fun _ => ⟨n + 1, ?_⟩⟩
      refine inner (y.2.1 21) _ _ n 0 False y (by omega) hfr (J_mono (J_start hJ) fun a c _ _ h _ => absurd h.1 (by omega)) (fun ch1 y1 hfr1 hJ1 => ?_)
      rw [ix_add]
      refine ih (i + 1) ch1 y1 _ _ (by omega) hfr1 hJ1 ?_
      by_cases hc : ch1
      · refine Or.inr ?_
        have hz := (J_zer hJ1).2 hc
        rcases hm with hm | hm
        · exfalso
          obtain ⟨b, hb, e0, e1⟩ := hJ1.2.2.2.2.2.2 hc
          have := J_end hJ.2.1 hJ.2.2.1 hJ.2.2.2.1 hm b hb
          have := isb_t this (hJ1.2.2.2.1 b hb e1)
          exact i01 (e0.symm.trans this)
        · omega
      · exact Or.inl (fun a c he hr => (hJ1.2.2.2.2.2.1 hc).2 a c (hE a c he).1 (hE a c he).2 he hr)
  have init : ∀ (k i : Nat) (y : Sta), i + k = 16 → fr [] [21] [] z y → (∀ b, b < i → y.2.1 21 b = if b = 0 then ix 1 else ix 0) → lp_M_reach_2 K (k + 1) (ix i) y := by
    intro k
    induction k with
    | zero =>
      intro i y hik hfr hb
      rw [lp_M_reach_2]
      simp (disch := omega) only [forall_eq, l0, l1, l2, l3, l4, l5, l6, l15, l16, l24, l30, l99, l100, l200, l385, lm1, ix_ne, ne_ix, ix_nat, vp_ix, ix_inj, ix_le, ix_lt, ix_add, ix_mul, ix_sub, nar0', nar1', or00, or01, or10, or11, rI, rIA, rIL, rA, rAI, rAL, rL, rLI, rLA, ru, ruL, reduceIte, Nat.reduceEqDiff, true_or, or_true, true_and, and_true, false_or, or_false, not_true_eq_false, not_false_eq_true, false_implies, true_implies, implies_true, i10, i01]
      refine ⟨fun _ => ⟨n + 1, ?_⟩, fun h => absurd (by omega) h⟩
      have hbb : ∀ b, b < 16 → y.2.1 21 b = ix 0 ∨ y.2.1 21 b = ix 1 := by
        intro b hb2; rw [hb b (by omega)]; split
        · exact Or.inr rfl
        · exact Or.inl rfl
      have h0 : y.2.1 21 0 = ix 1 := by rw [hb 0 (by omega)]; rfl
      have hz : zer (y.2.1 21) ≤ 15 := by
        have : zer (y.2.1 21) < cnt (fun _ => true) 16 := cnt_lt (fun _ _ _ => rfl) (k := 0) (by omega) (decide_eq_false (by rw [h0]; exact i10)) rfl
        have := cnt_le (fun _ => true) 16; omega
      refine outer n 0 False y (y.2.1 21) (fun _ _ => False) (by omega) hfr ⟨hbb, hbb, h0, ?_, fun _ _ h => h, fun _ => ⟨fun _ _ => rfl, fun _ _ _ _ h => h.elim⟩, fun h => h.elim⟩ (Or.inr (by omega))
      · intro b hb2 hr; rw [hb b (by omega)] at hr; split at hr
        · next e => rw [e]; exact Rch_0
        · exact absurd hr i01
    | succ k ih =>
      intro i y hik hfr hb
      rw [lp_M_reach_2]
      simp (disch := omega) only [pj_M_reach_22, forall_eq, l0, l1, l2, l3, l4, l5, l6, l15, l16, l24, l30, l99, l100, l200, l385, lm1, ix_ne, ne_ix, ix_nat, vp_ix, ix_inj, ix_le, ix_lt, ix_add, ix_mul, ix_sub, nar0', nar1', or00, or01, or10, or11, rI, rIA, rIL, rA, rAI, rAL, rL, rLI, rLA, ru, ruL, reduceIte, Nat.reduceEqDiff, true_or, or_true, true_and, and_true, false_or, or_false, not_true_eq_false, not_false_eq_true, false_implies, true_implies, implies_true, i10, i01]
      refine ⟨fun h => absurd h (by omega), fun _ => ⟨fun h => ⟨by omega, ?_⟩, fun h => ⟨by omega, ?_⟩⟩⟩
      · refine ih (i + 1) _ (by omega) (fr_A hfr (by decide) _) (fun b hb2 => ?_)
        rw [rA, if_pos rfl, ru]; split
        · next e => rw [e, if_neg h]
        · exact hb b (by omega)
      · refine ih (i + 1) _ (by omega) (fr_A hfr (by decide) _) (fun b hb2 => ?_)
        rw [rA, if_pos rfl, ru]; split
        · next e => rw [e, if_pos h]
        · exact hb b (by omega)
  exact ⟨17, init 16 0 z rfl (fr_refl z) (fun b h => absurd h (by omega))⟩
end
section
def cpC (z : Sta) (b e k : Nat) : Prop := z.2.1 1 (5 * b + k) = ix 2 ∧ z.2.1 3 (5 * b + k) = ix e
def gvC (z : Sta) (b e k : Nat) : Prop := ¬ z.2.1 1 (5 * b + k) = ix 3 ∧ hb (z.2.2 0 (z.2.1 2 (5 * b + k)).toNatClampNeg) e = true
theorem s_O_readBlock {z : Sta} {K : Sta → Prop} {b sz : Nat} (hb16 : b < 16) (hsz : z.2.1 0 b = ix sz) (hs5 : sz ≤ 5)
    (hop : ∀ k, k < sz → z.2.1 1 (5 * b + k) = ix 2 → ∃ e, e < 24 ∧ z.2.1 3 (5 * b + k) = ix e)
    (htg : ∀ k, k < sz → ∃ t, t < 6 ∧ z.2.1 2 (5 * b + k) = ix t)
    (hK : ∀ y, fr [] [] [1, 2, 3] z y → (∀ a, a ≠ b → y.2.2 1 a = z.2.2 1 a ∧ y.2.2 2 a = z.2.2 2 a ∧ y.2.2 3 a = z.2.2 3 a) →
      (∀ e, e < 64 → (¬ z.2.1 10 b = ix 0 → (hb (y.2.2 1 b) e = true ↔ (lk (cpC z b e) (gvC z b e) sz).1) ∧
         (hb (y.2.2 2 b) e = true ↔ (lk (cpC z b e) (gvC z b e) sz).2.1) ∧
         (hb (y.2.2 3 b) e = true ↔ (lk (cpC z b e) (gvC z b e) sz).2.2)) ∧
         (z.2.1 10 b = ix 0 → hb (y.2.2 1 b) e = false ∧ hb (y.2.2 2 b) e = false ∧ hb (y.2.2 3 b) e = false)) → K y) : wp_O_readBlock (ix b) z K := by
  have loop : ∀ (k i : Nat) (y : Sta), i + k = sz → fr [] [] [1, 2, 3] z y → (∀ a, a ≠ b → y.2.2 1 a = z.2.2 1 a ∧ y.2.2 2 a = z.2.2 2 a ∧ y.2.2 3 a = z.2.2 3 a) →
      (∀ e, e < 64 → (hb (y.2.2 1 b) e = true ↔ (lk (cpC z b e) (gvC z b e) i).1) ∧
         (hb (y.2.2 2 b) e = true ↔ (lk (cpC z b e) (gvC z b e) i).2.1) ∧
         (hb (y.2.2 3 b) e = true ↔ (lk (cpC z b e) (gvC z b e) i).2.2)) →
      (¬ z.2.1 10 b = ix 0) → lp_O_readBlock_37 K (k + 1) (ix b) (ix (5 * b)) (ix (5 * b + i)) y := by
    intro k
    induction k with
    | zero =>
      intro i y hik hfr hoff hinv h10
      have h0 : y.2.1 0 = z.2.1 0 := hfr.2.1 0 (by decide)
      rw [lp_O_readBlock_37]
      simp (disch := omega) only [h0, hsz, forall_eq, l0, l1, l2, l3, l4, l5, l6, l15, l16, l24, l30, l99, l100, l200, l385, lm1, ix_ne, ne_ix, ix_nat, vp_ix, ix_inj, ix_le, ix_lt, ix_add, ix_mul, ix_sub, nar0', nar1', or00, or01, or10, or11, rI, rIA, rIL, rA, rAI, rAL, rL, rLI, rLA, ru, ruL, reduceIte, Nat.reduceEqDiff, true_or, or_true, true_and, and_true, false_or, or_false, not_true_eq_false, not_false_eq_true, false_implies, true_implies, implies_true, i10, i01]
      have : i = sz := by omega
      subst this
      exact ⟨by omega, fun _ => hK y hfr hoff (fun e he => ⟨fun _ => hinv e he, fun h => absurd h h10⟩), fun h => absurd (by omega) h⟩
    | succ k ih =>
      intro i y hik hfr hoff hinv h10
      have h0 : y.2.1 0 = z.2.1 0 := hfr.2.1 0 (by decide)
      have h1 : y.2.1 1 = z.2.1 1 := hfr.2.1 1 (by decide)
      have h2 : y.2.1 2 = z.2.1 2 := hfr.2.1 2 (by decide)
      have h3 : y.2.1 3 = z.2.1 3 := hfr.2.1 3 (by decide)
      have hu : y.2.2 0 = z.2.2 0 := hfr.2.2 0 (by decide)
      obtain ⟨t, ht, htg⟩ := htg i (by omega)
      have second : ∀ (y1 : Sta), fr [] [] [1, 2, 3] z y1 → (∀ a, a ≠ b → y1.2.2 1 a = z.2.2 1 a ∧ y1.2.2 2 a = z.2.2 2 a ∧ y1.2.2 3 a = z.2.2 3 a) →
          (∀ e, e < 64 → hb (y1.2.2 1 b) e = hb (y.2.2 1 b) e) → (∀ e, e < 64 → (hb (y1.2.2 2 b) e = true ↔ hb (y.2.2 2 b) e = true ∨ (cpC z b e i ∧ ¬ hb (y.2.2 1 b) e = true))) →
          (∀ e, e < 64 → (hb (y1.2.2 3 b) e = true ↔ hb (y.2.2 3 b) e = true ∨ cpC z b e i)) →
          pj_O_readBlock_111 K (fun x1 x2 x3 z => lp_O_readBlock_37 K (k + 1) x1 x2 x3 z) (ix b) (ix (5 * b)) (ix (5 * b + i)) y1 := by
        intro y1 hfr1 hoff1 hc ha hl
        have h11 : y1.2.1 1 = z.2.1 1 := hfr1.2.1 1 (by decide)
        have h12 : y1.2.1 2 = z.2.1 2 := hfr1.2.1 2 (by decide)
        have hu1 : y1.2.2 0 = z.2.2 0 := hfr1.2.2 0 (by decide)
        simp (disch := omega) only [pj_O_readBlock_111, pj_O_readBlock_169, h11, h12, hu1, htg, forall_eq, l0, l1, l2, l3, l4, l5, l6, l15, l16, l24, l30, l99, l100, l200, l385, lm1, ix_ne, ne_ix, ix_nat, vp_ix, ix_inj, ix_le, ix_lt, ix_add, ix_mul, ix_sub, nar0', nar1', or00, or01, or10, or11, rI, rIA, rIL, rA, rAI, rAL, rL, rLI, rLA, ru, ruL, reduceIte, Nat.reduceEqDiff, true_or, or_true, true_and, and_true, false_or, or_false, not_true_eq_false, not_false_eq_true, false_implies, true_implies, implies_true, i10, i01]
        refine ⟨by omega, fun h => ?_, fun h => ⟨by omega, by omega, by omega, by omega, by omega, by omega, ?_⟩⟩
        · refine ih (i + 1) y1 (by omega) hfr1 hoff1 (fun e he => ?_) h10
          obtain ⟨i1, i2, i3⟩ := hinv e he
          have hg : ¬ gvC z b e i := fun hh => hh.1 h
          simp only [lk, hg, or_false, not_false_eq_true, and_true]
          exact ⟨by rw [hc e he, i1], by rw [ha e he, i1, i2], by rw [hl e he, i3]⟩
        · refine ih (i + 1) _ (by omega) (fr_L (fr_L hfr1 (by decide) _) (by decide) _) (fun a ha => ?_) (fun e he => ?_) h10
          · have := hoff1 a ha
            simp (disch := omega) only [if_neg ha, forall_eq, l0, l1, l2, l3, l4, l5, l6, l15, l16, l24, l30, l99, l100, l200, l385, lm1, ix_ne, ne_ix, ix_nat, vp_ix, ix_inj, ix_le, ix_lt, ix_add, ix_mul, ix_sub, nar0', nar1', or00, or01, or10, or11, rI, rIA, rIL, rA, rAI, rAL, rL, rLI, rLA, ru, ruL, reduceIte, Nat.reduceEqDiff, true_or, or_true, true_and, and_true, false_or, or_false, not_true_eq_false, not_false_eq_true, false_implies, true_implies, implies_true, i10, i01]
            exact this
          · obtain ⟨i1, i2, i3⟩ := hinv e he
            have hg : gvC z b e i ↔ hb (z.2.2 0 t) e = true := by
              simp only [gvC, htg, ix_nat (show t < 2147483648 by omega)]
              exact ⟨fun hh => hh.2, fun hh => ⟨h, hh⟩⟩
            simp (disch := omega) only [lk, hb_or, hb_andn, forall_eq, l0, l1, l2, l3, l4, l5, l6, l15, l16, l24, l30, l99, l100, l200, l385, lm1, ix_ne, ne_ix, ix_nat, vp_ix, ix_inj, ix_le, ix_lt, ix_add, ix_mul, ix_sub, nar0', nar1', or00, or01, or10, or11, rI, rIA, rIL, rA, rAI, rAL, rL, rLI, rLA, ru, ruL, reduceIte, Nat.reduceEqDiff, true_or, or_true, true_and, and_true, false_or, or_false, not_true_eq_false, not_false_eq_true, false_implies, true_implies, implies_true, i10, i01]
            rw [hg]
            refine ⟨?_, ?_, ?_⟩
            · rw [hc e he, Bool.or_eq_true, i1]
            · rw [ha e he, i1, i2]
            · rw [Bool.and_eq_true, hl e he, i3, Bool.not_eq_true', Bool.not_eq_true]
      rw [lp_O_readBlock_37]
      simp (disch := omega) only [h0, hsz, h1, h3, forall_eq, l0, l1, l2, l3, l4, l5, l6, l15, l16, l24, l30, l99, l100, l200, l385, lm1, ix_ne, ne_ix, ix_nat, vp_ix, ix_inj, ix_le, ix_lt, ix_add, ix_mul, ix_sub, nar0', nar1', or00, or01, or10, or11, rI, rIA, rIL, rA, rAI, rAL, rL, rLI, rLA, ru, ruL, reduceIte, Nat.reduceEqDiff, true_or, or_true, true_and, and_true, false_or, or_false, not_true_eq_false, not_false_eq_true, false_implies, true_implies, implies_true, i10, i01]
      refine ⟨by omega, fun h => absurd h (by omega), fun _ => ⟨by omega, fun h => ?_, fun h => ⟨by omega, by omega, by omega, by omega, by omega, by omega, ?_⟩⟩⟩
      · refine second y hfr hoff (fun _ _ => rfl) (fun e he => ?_) (fun e he => ?_)
        · exact ⟨Or.inl, fun hh => hh.elim id (fun hh => absurd hh.1.1 h)⟩
        · exact ⟨Or.inl, fun hh => hh.elim id (fun hh => absurd hh.1 h)⟩
      · obtain ⟨e0, he0, hop⟩ := hop i (by omega) h
        refine second _ (fr_L (fr_L hfr (by decide) _) (by decide) _) (fun a ha => ?_) (fun e he => ?_) (fun e he => ?_) (fun e he => ?_)
        · have := hoff a ha
          simp (disch := omega) only [if_neg ha, forall_eq, l0, l1, l2, l3, l4, l5, l6, l15, l16, l24, l30, l99, l100, l200, l385, lm1, ix_ne, ne_ix, ix_nat, vp_ix, ix_inj, ix_le, ix_lt, ix_add, ix_mul, ix_sub, nar0', nar1', or00, or01, or10, or11, rI, rIA, rIL, rA, rAI, rAL, rL, rLI, rLA, ru, ruL, reduceIte, Nat.reduceEqDiff, true_or, or_true, true_and, and_true, false_or, or_false, not_true_eq_false, not_false_eq_true, false_implies, true_implies, implies_true, i10, i01]
          exact this
        · simp (disch := omega) only [forall_eq, l0, l1, l2, l3, l4, l5, l6, l15, l16, l24, l30, l99, l100, l200, l385, lm1, ix_ne, ne_ix, ix_nat, vp_ix, ix_inj, ix_le, ix_lt, ix_add, ix_mul, ix_sub, nar0', nar1', or00, or01, or10, or11, rI, rIA, rIL, rA, rAI, rAL, rL, rLI, rLA, ru, ruL, reduceIte, Nat.reduceEqDiff, true_or, or_true, true_and, and_true, false_or, or_false, not_true_eq_false, not_false_eq_true, false_implies, true_implies, implies_true, i10, i01]
        · have hcp : cpC z b e i ↔ e = e0 := by
            constructor
            · intro hh
              have := hh.2.symm.trans hop
              rwa [ix_inj (by omega) (by omega)] at this
            · intro hh; rw [hh]; exact ⟨h, hop⟩
          simp (disch := omega) only [hop, hb_or, hb_andn, hb_one he0, Bool.or_eq_true, Bool.and_eq_true, decide_eq_true_eq, forall_eq, l0, l1, l2, l3, l4, l5, l6, l15, l16, l24, l30, l99, l100, l200, l385, lm1, ix_ne, ne_ix, ix_nat, vp_ix, ix_inj, ix_le, ix_lt, ix_add, ix_mul, ix_sub, nar0', nar1', or00, or01, or10, or11, rI, rIA, rIL, rA, rAI, rAL, rL, rLI, rLA, ru, ruL, reduceIte, Nat.reduceEqDiff, true_or, or_true, true_and, and_true, false_or, or_false, not_true_eq_false, not_false_eq_true, false_implies, true_implies, implies_true, i10, i01]
          rw [hcp, Bool.not_eq_true', Bool.not_eq_true]
        · have hcp : cpC z b e i ↔ e = e0 := by
            constructor
            · intro hh
              have := hh.2.symm.trans hop
              rwa [ix_inj (by omega) (by omega)] at this
            · intro hh; rw [hh]; exact ⟨h, hop⟩
          simp (disch := omega) only [hop, hb_or, hb_one he0, Bool.or_eq_true, decide_eq_true_eq, forall_eq, l0, l1, l2, l3, l4, l5, l6, l15, l16, l24, l30, l99, l100, l200, l385, lm1, ix_ne, ne_ix, ix_nat, vp_ix, ix_inj, ix_le, ix_lt, ix_add, ix_mul, ix_sub, nar0', nar1', or00, or01, or10, or11, rI, rIA, rIL, rA, rAI, rAL, rL, rLI, rLA, ru, ruL, reduceIte, Nat.reduceEqDiff, true_or, or_true, true_and, and_true, false_or, or_false, not_true_eq_false, not_false_eq_true, false_implies, true_implies, implies_true, i10, i01]
          rw [hcp]
  simp (disch := omega) only [wp_O_readBlock, forall_eq, l0, l1, l2, l3, l4, l5, l6, l15, l16, l24, l30, l99, l100, l200, l385, lm1, ix_ne, ne_ix, ix_nat, vp_ix, ix_inj, ix_le, ix_lt, ix_add, ix_mul, ix_sub, nar0', nar1', or00, or01, or10, or11, rI, rIA, rIL, rA, rAI, rAL, rL, rLI, rLA, ru, ruL, reduceIte, Nat.reduceEqDiff, true_or, or_true, true_and, and_true, false_or, or_false, not_true_eq_false, not_false_eq_true, false_implies, true_implies, implies_true, i10, i01]
  have hb0 : ∀ e, hb (0 : Int64) e = true ↔ False := fun e => by rw [hb_0]; simp
  refine ⟨by omega, by omega, by omega, by omega, fun h => ⟨sz + 1, ?_⟩, fun h => ?_⟩
  · rw [Nat.mul_comm b 5]
    refine loop sz 0 _ (by omega) (fr_L (fr_L (fr_L (fr_refl z) (by decide) _) (by decide) _) (by decide) _) (fun a ha => ?_) (fun e he => ?_) h
    · simp (disch := omega) only [if_neg ha, forall_eq, l0, l1, l2, l3, l4, l5, l6, l15, l16, l24, l30, l99, l100, l200, l385, lm1, ix_ne, ne_ix, ix_nat, vp_ix, ix_inj, ix_le, ix_lt, ix_add, ix_mul, ix_sub, nar0', nar1', or00, or01, or10, or11, rI, rIA, rIL, rA, rAI, rAL, rL, rLI, rLA, ru, ruL, reduceIte, Nat.reduceEqDiff, true_or, or_true, true_and, and_true, false_or, or_false, not_true_eq_false, not_false_eq_true, false_implies, true_implies, implies_true, i10, i01]
    · simp (disch := omega) only [lk, hb0, forall_eq, l0, l1, l2, l3, l4, l5, l6, l15, l16, l24, l30, l99, l100, l200, l385, lm1, ix_ne, ne_ix, ix_nat, vp_ix, ix_inj, ix_le, ix_lt, ix_add, ix_mul, ix_sub, nar0', nar1', or00, or01, or10, or11, rI, rIA, rIL, rA, rAI, rAL, rL, rLI, rLA, ru, ruL, reduceIte, Nat.reduceEqDiff, true_or, or_true, true_and, and_true, false_or, or_false, not_true_eq_false, not_false_eq_true, false_implies, true_implies, implies_true, i10, i01]
  · refine hK _ (fr_L (fr_L (fr_L (fr_refl z) (by decide) _) (by decide) _) (by decide) _) (fun a ha => ?_) (fun e he => ⟨fun hh => absurd h hh, fun _ => ?_⟩)
    · simp (disch := omega) only [if_neg ha, forall_eq, l0, l1, l2, l3, l4, l5, l6, l15, l16, l24, l30, l99, l100, l200, l385, lm1, ix_ne, ne_ix, ix_nat, vp_ix, ix_inj, ix_le, ix_lt, ix_add, ix_mul, ix_sub, nar0', nar1', or00, or01, or10, or11, rI, rIA, rIL, rA, rAI, rAL, rL, rLI, rLA, ru, ruL, reduceIte, Nat.reduceEqDiff, true_or, or_true, true_and, and_true, false_or, or_false, not_true_eq_false, not_false_eq_true, false_implies, true_implies, implies_true, i10, i01]
    · simp (disch := omega) only [hb_0, forall_eq, l0, l1, l2, l3, l4, l5, l6, l15, l16, l24, l30, l99, l100, l200, l385, lm1, ix_ne, ne_ix, ix_nat, vp_ix, ix_inj, ix_le, ix_lt, ix_add, ix_mul, ix_sub, nar0', nar1', or00, or01, or10, or11, rI, rIA, rIL, rA, rAI, rAL, rL, rLI, rLA, ru, ruL, reduceIte, Nat.reduceEqDiff, true_or, or_true, true_and, and_true, false_or, or_false, not_true_eq_false, not_false_eq_true, false_implies, true_implies, implies_true, i10, i01]
def cpM (z : Sta) (b e k : Nat) : Prop := z.2.1 16 (30 * b + 6 * k) = ix 2 ∧ z.2.1 16 (30 * b + 6 * k + 5) = ix e
def gvM (z : Sta) (b e k : Nat) : Prop := ¬ ix 3 ≤ z.2.1 16 (30 * b + 6 * k) ∧ (z.2.1 16 (30 * b + 6 * k + 1) = z.2.1 18 e ∨ z.2.1 16 (30 * b + 6 * k + 1) = z.2.1 20 e)
theorem s_M_gives {z : Sta} {K : Int32 → Sta → Prop} {b e k : Nat} (hb16 : b < 16) (he : e < 24) (hk : k < 5) (h : ∀ v, isb v (gvM z b e k) → K v z) : wp_M_gives (ix (30 * b + 6 * k)) (ix e) z K := by
  simp (disch := omega) only [wp_M_gives, pj_M_gives_48, pj_M_gives_49, pj_M_gives_44, forall_eq, l0, l1, l2, l3, l4, l5, l6, l15, l16, l24, l30, l99, l100, l200, l385, lm1, ix_ne, ne_ix, ix_nat, vp_ix, ix_inj, ix_le, ix_lt, ix_add, ix_mul, ix_sub, nar0', nar1', or00, or01, or10, or11, rI, rIA, rIL, rA, rAI, rAL, rL, rLI, rLA, ru, ruL, reduceIte, Nat.reduceEqDiff, true_or, or_true, true_and, and_true, false_or, or_false, not_true_eq_false, not_false_eq_true, false_implies, true_implies, implies_true, i10, i01]
  refine ⟨by omega, fun h0 => h _ (Or.inr ⟨rfl, fun hh => hh.1 h0⟩), fun h0 => ⟨by omega, by omega, fun h1 => h _ (Or.inl ⟨rfl, h0, Or.inl h1⟩), fun h1 => ⟨by omega, by omega, fun h2 => h _ (Or.inr ⟨rfl, fun hh => hh.2.elim h1 h2⟩), fun h2 => h _ (Or.inl ⟨rfl, h0, Or.inr h2⟩)⟩⟩⟩
theorem s_M_look {z : Sta} {K : Sta → Prop} {b e sz : Nat} (hb16 : b < 16) (he : e < 24) (hsz : z.2.1 15 b = ix sz) (hs5 : sz ≤ 5)
    (hK : ∀ y, fr [] [24, 25, 26] [] z y → (∀ a, a ≠ b → y.2.1 24 a = z.2.1 24 a ∧ y.2.1 25 a = z.2.1 25 a ∧ y.2.1 26 a = z.2.1 26 a) →
      isb (y.2.1 24 b) (lk (cpM z b e) (gvM z b e) sz).1 → isb (y.2.1 25 b) (lk (cpM z b e) (gvM z b e) sz).2.1 → isb (y.2.1 26 b) (lk (cpM z b e) (gvM z b e) sz).2.2 → K y) : wp_M_look (ix b) (ix e) z K := by
  have gvz : ∀ (y : Sta) (k : Nat), fr [] [24, 25, 26] [] z y → (gvM y b e k ↔ gvM z b e k) := by
    intro y k hfr
    simp only [gvM, hfr.2.1 16 (by decide), hfr.2.1 18 (by decide), hfr.2.1 20 (by decide)]
  have loop : ∀ (k i : Nat) (y : Sta), i + k = sz → fr [] [24, 25, 26] [] z y → (∀ a, a ≠ b → y.2.1 24 a = z.2.1 24 a ∧ y.2.1 25 a = z.2.1 25 a ∧ y.2.1 26 a = z.2.1 26 a) →
      isb (y.2.1 24 b) (lk (cpM z b e) (gvM z b e) i).1 → isb (y.2.1 25 b) (lk (cpM z b e) (gvM z b e) i).2.1 → isb (y.2.1 26 b) (lk (cpM z b e) (gvM z b e) i).2.2 →
      lp_M_look_23 K (k + 1) (ix b) (ix e) (ix i) y := by
    intro k
    induction k with
    | zero =>
      intro i y hik hfr hoff h1 h2 h3
      have h15 : y.2.1 15 = z.2.1 15 := hfr.2.1 15 (by decide)
      rw [lp_M_look_23]
      simp (disch := omega) only [h15, hsz, forall_eq, l0, l1, l2, l3, l4, l5, l6, l15, l16, l24, l30, l99, l100, l200, l385, lm1, ix_ne, ne_ix, ix_nat, vp_ix, ix_inj, ix_le, ix_lt, ix_add, ix_mul, ix_sub, nar0', nar1', or00, or01, or10, or11, rI, rIA, rIL, rA, rAI, rAL, rL, rLI, rLA, ru, ruL, reduceIte, Nat.reduceEqDiff, true_or, or_true, true_and, and_true, false_or, or_false, not_true_eq_false, not_false_eq_true, false_implies, true_implies, implies_true, i10, i01]
      have : i = sz := by omega
      subst this
      exact ⟨by omega, fun _ => hK y hfr hoff h1 h2 h3, fun h => absurd (by omega) h⟩
    | succ k ih =>
      intro i y hik hfr hoff h1 h2 h3
      have h15 : y.2.1 15 = z.2.1 15 := hfr.2.1 15 (by decide)
      have h16 : y.2.1 16 = z.2.1 16 := hfr.2.1 16 (by decide)
      have third : ∀ (y1 : Sta) (v : Int32), fr [] [24, 25, 26] [] z y1 → (∀ a, a ≠ b → y1.2.1 24 a = z.2.1 24 a ∧ y1.2.1 25 a = z.2.1 25 a ∧ y1.2.1 26 a = z.2.1 26 a) →
          isb (y1.2.1 24 b) (lk (cpM z b e) (gvM z b e) i).1 → isb (y1.2.1 25 b) (lk (cpM z b e) (gvM z b e) (i + 1)).2.1 → isb v (lk (cpM z b e) (gvM z b e) (i + 1)).2.2 →
          pj_M_look_143 K (fun x1 x2 x3 z => lp_M_look_23 K (k + 1) x1 x2 x3 z) (ix b) (ix e) (ix i) (ix (30 * b + 6 * i)) v (ix b) y1 := by
        intro y1 v hfr1 hoff1 i1 i2 i3
        have hv : vp_nar .boolean v = v := by
          rcases isb_b i3 with h | h <;> rw [h] <;> decide
        have hoffN : ∀ (w : Int32), (∀ a, a ≠ b → (zA (zA y1 26 (upd (y1.2.1 26) b v)) 24 (upd (y1.2.1 24) b w)).2.1 24 a = z.2.1 24 a ∧ (zA (zA y1 26 (upd (y1.2.1 26) b v)) 24 (upd (y1.2.1 24) b w)).2.1 25 a = z.2.1 25 a ∧ (zA (zA y1 26 (upd (y1.2.1 26) b v)) 24 (upd (y1.2.1 24) b w)).2.1 26 a = z.2.1 26 a) := by
          intro w a ha
          have := hoff1 a ha
          simp (disch := omega) only [if_neg ha, forall_eq, l0, l1, l2, l3, l4, l5, l6, l15, l16, l24, l30, l99, l100, l200, l385, lm1, ix_ne, ne_ix, ix_nat, vp_ix, ix_inj, ix_le, ix_lt, ix_add, ix_mul, ix_sub, nar0', nar1', or00, or01, or10, or11, rI, rIA, rIL, rA, rAI, rAL, rL, rLI, rLA, ru, ruL, reduceIte, Nat.reduceEqDiff, true_or, or_true, true_and, and_true, false_or, or_false, not_true_eq_false, not_false_eq_true, false_implies, true_implies, implies_true, i10, i01]
          exact this
        have fin : ∀ (w : Int32), isb w (lk (cpM z b e) (gvM z b e) (i + 1)).1 → lp_M_look_23 K (k + 1) (ix b) (ix e) (ix (i + 1)) (zA (zA y1 26 (upd (y1.2.1 26) b v)) 24 (upd (y1.2.1 24) b w)) := by
          intro w hw
          refine ih (i + 1) _ (by omega) (fr_A (fr_A hfr1 (by decide) _) (by decide) _) (hoffN w) ?_ ?_ ?_
          · simp (disch := omega) only [forall_eq, l0, l1, l2, l3, l4, l5, l6, l15, l16, l24, l30, l99, l100, l200, l385, lm1, ix_ne, ne_ix, ix_nat, vp_ix, ix_inj, ix_le, ix_lt, ix_add, ix_mul, ix_sub, nar0', nar1', or00, or01, or10, or11, rI, rIA, rIL, rA, rAI, rAL, rL, rLI, rLA, ru, ruL, reduceIte, Nat.reduceEqDiff, true_or, or_true, true_and, and_true, false_or, or_false, not_true_eq_false, not_false_eq_true, false_implies, true_implies, implies_true, i10, i01]
            exact hw
          · simp (disch := omega) only [forall_eq, l0, l1, l2, l3, l4, l5, l6, l15, l16, l24, l30, l99, l100, l200, l385, lm1, ix_ne, ne_ix, ix_nat, vp_ix, ix_inj, ix_le, ix_lt, ix_add, ix_mul, ix_sub, nar0', nar1', or00, or01, or10, or11, rI, rIA, rIL, rA, rAI, rAL, rL, rLI, rLA, ru, ruL, reduceIte, Nat.reduceEqDiff, true_or, or_true, true_and, and_true, false_or, or_false, not_true_eq_false, not_false_eq_true, false_implies, true_implies, implies_true, i10, i01]
            exact i2
          · simp (disch := omega) only [forall_eq, l0, l1, l2, l3, l4, l5, l6, l15, l16, l24, l30, l99, l100, l200, l385, lm1, ix_ne, ne_ix, ix_nat, vp_ix, ix_inj, ix_le, ix_lt, ix_add, ix_mul, ix_sub, nar0', nar1', or00, or01, or10, or11, rI, rIA, rIL, rA, rAI, rAL, rL, rLI, rLA, ru, ruL, reduceIte, Nat.reduceEqDiff, true_or, or_true, true_and, and_true, false_or, or_false, not_true_eq_false, not_false_eq_true, false_implies, true_implies, implies_true, i10, i01]
            exact i3
        simp (disch := omega) only [pj_M_look_143, pj_M_look_168, pj_M_look_173, hv, forall_eq, l0, l1, l2, l3, l4, l5, l6, l15, l16, l24, l30, l99, l100, l200, l385, lm1, ix_ne, ne_ix, ix_nat, vp_ix, ix_inj, ix_le, ix_lt, ix_add, ix_mul, ix_sub, nar0', nar1', or00, or01, or10, or11, rI, rIA, rIL, rA, rAI, rAL, rL, rLI, rLA, ru, ruL, reduceIte, Nat.reduceEqDiff, true_or, or_true, true_and, and_true, false_or, or_false, not_true_eq_false, not_false_eq_true, false_implies, true_implies, implies_true, i10, i01]
        refine ⟨by omega, by omega, fun h => ⟨by omega, fin _ (Or.inl ⟨rfl, ?_⟩)⟩, fun h => s_M_gives hb16 he (by omega) (fun v2 hv2 => ?_)⟩
        · exact Or.inl (Classical.byContradiction fun hh => h ((isb_z i1).2 hh))
        · have hv2 := isb_c hv2 (gvz _ i (fr_A hfr1 (by decide) _))
          simp (disch := omega) only [forall_eq, l0, l1, l2, l3, l4, l5, l6, l15, l16, l24, l30, l99, l100, l200, l385, lm1, ix_ne, ne_ix, ix_nat, vp_ix, ix_inj, ix_le, ix_lt, ix_add, ix_mul, ix_sub, nar0', nar1', or00, or01, or10, or11, rI, rIA, rIL, rA, rAI, rAL, rL, rLI, rLA, ru, ruL, reduceIte, Nat.reduceEqDiff, true_or, or_true, true_and, and_true, false_or, or_false, not_true_eq_false, not_false_eq_true, false_implies, true_implies, implies_true, i10, i01]
          refine ⟨fun h2 => ⟨by omega, fin _ (Or.inr ⟨rfl, ?_⟩)⟩, fun h2 => ⟨by omega, fin _ (Or.inl ⟨rfl, ?_⟩)⟩⟩
          · exact fun hh => hh.elim ((isb_z i1).1 h) ((isb_z hv2).1 h2)
          · exact Or.inr (Classical.byContradiction fun hh => h2 ((isb_z hv2).2 hh))
      have second : ∀ (y1 : Sta) (x5 v : Int32), fr [] [24, 25, 26] [] z y1 → (∀ a, a ≠ b → y1.2.1 24 a = z.2.1 24 a ∧ y1.2.1 25 a = z.2.1 25 a ∧ y1.2.1 26 a = z.2.1 26 a) →
          isb (y1.2.1 24 b) (lk (cpM z b e) (gvM z b e) i).1 → isb v (lk (cpM z b e) (gvM z b e) (i + 1)).2.1 → isb (y1.2.1 26 b) (lk (cpM z b e) (gvM z b e) i).2.2 → isb x5 (cpM z b e i) →
          pj_M_look_108 K (fun x1 x2 x3 z => lp_M_look_23 K (k + 1) x1 x2 x3 z) (ix b) (ix e) (ix i) (ix (30 * b + 6 * i)) x5 v (ix b) y1 := by
        intro y1 x5 v hfr1 hoff1 i1 i2 i3 i5
        have hv : vp_nar .boolean v = v := by
          rcases isb_b i2 with h | h <;> rw [h] <;> decide
        have hfr2 : fr [] [24, 25, 26] [] z (zA y1 25 (upd (y1.2.1 25) b v)) := fr_A hfr1 (by decide) _
        have go : ∀ (w : Int32), isb w (lk (cpM z b e) (gvM z b e) (i + 1)).2.2 → pj_M_look_143 K (fun x1 x2 x3 z => lp_M_look_23 K (k + 1) x1 x2 x3 z) (ix b) (ix e) (ix i) (ix (30 * b + 6 * i)) w (ix b) (zA y1 25 (upd (y1.2.1 25) b v)) := by
          intro w hw
          refine third _ w hfr2 (fun a ha => ?_) ?_ ?_ hw
          · have := hoff1 a ha
            simp (disch := omega) only [if_neg ha, forall_eq, l0, l1, l2, l3, l4, l5, l6, l15, l16, l24, l30, l99, l100, l200, l385, lm1, ix_ne, ne_ix, ix_nat, vp_ix, ix_inj, ix_le, ix_lt, ix_add, ix_mul, ix_sub, nar0', nar1', or00, or01, or10, or11, rI, rIA, rIL, rA, rAI, rAL, rL, rLI, rLA, ru, ruL, reduceIte, Nat.reduceEqDiff, true_or, or_true, true_and, and_true, false_or, or_false, not_true_eq_false, not_false_eq_true, false_implies, true_implies, implies_true, i10, i01]
            exact this
          · simp (disch := omega) only [forall_eq, l0, l1, l2, l3, l4, l5, l6, l15, l16, l24, l30, l99, l100, l200, l385, lm1, ix_ne, ne_ix, ix_nat, vp_ix, ix_inj, ix_le, ix_lt, ix_add, ix_mul, ix_sub, nar0', nar1', or00, or01, or10, or11, rI, rIA, rIL, rA, rAI, rAL, rL, rLI, rLA, ru, ruL, reduceIte, Nat.reduceEqDiff, true_or, or_true, true_and, and_true, false_or, or_false, not_true_eq_false, not_false_eq_true, false_implies, true_implies, implies_true, i10, i01]
            exact i1
          · simp (disch := omega) only [forall_eq, l0, l1, l2, l3, l4, l5, l6, l15, l16, l24, l30, l99, l100, l200, l385, lm1, ix_ne, ne_ix, ix_nat, vp_ix, ix_inj, ix_le, ix_lt, ix_add, ix_mul, ix_sub, nar0', nar1', or00, or01, or10, or11, rI, rIA, rIL, rA, rAI, rAL, rL, rLI, rLA, ru, ruL, reduceIte, Nat.reduceEqDiff, true_or, or_true, true_and, and_true, false_or, or_false, not_true_eq_false, not_false_eq_true, false_implies, true_implies, implies_true, i10, i01]
            exact i2
        have lks : (lk (cpM z b e) (gvM z b e) (i + 1)).2.2 = (((lk (cpM z b e) (gvM z b e) i).2.2 ∨ cpM z b e i) ∧ ¬ gvM z b e i) := rfl
        have give : ((lk (cpM z b e) (gvM z b e) i).2.2 ∨ cpM z b e i) → pj_M_look_128 K (fun x1 x2 x3 z => lp_M_look_23 K (k + 1) x1 x2 x3 z) (ix b) (ix e) (ix i) (ix (30 * b + 6 * i)) (ix b) (zA y1 25 (upd (y1.2.1 25) b v)) := by
          intro hor
          rw [pj_M_look_128]
          refine s_M_gives hb16 he (by omega) (fun v2 hv2 => ?_)
          have hv2 := isb_c hv2 (gvz _ i hfr2)
          simp (disch := omega) only [pj_M_look_142, forall_eq, l0, l1, l2, l3, l4, l5, l6, l15, l16, l24, l30, l99, l100, l200, l385, lm1, ix_ne, ne_ix, ix_nat, vp_ix, ix_inj, ix_le, ix_lt, ix_add, ix_mul, ix_sub, nar0', nar1', or00, or01, or10, or11, rI, rIA, rIL, rA, rAI, rAL, rL, rLI, rLA, ru, ruL, reduceIte, Nat.reduceEqDiff, true_or, or_true, true_and, and_true, false_or, or_false, not_true_eq_false, not_false_eq_true, false_implies, true_implies, implies_true, i10, i01]
          refine ⟨fun h2 => go _ (Or.inr ⟨rfl, fun hh => ?_⟩), fun h2 => go _ (Or.inl ⟨rfl, hor, (isb_z hv2).1 h2⟩)⟩
          exact h2 ((isb_z hv2).2 hh.2)
        simp (disch := omega) only [pj_M_look_108, pj_M_look_142, hv, forall_eq, l0, l1, l2, l3, l4, l5, l6, l15, l16, l24, l30, l99, l100, l200, l385, lm1, ix_ne, ne_ix, ix_nat, vp_ix, ix_inj, ix_le, ix_lt, ix_add, ix_mul, ix_sub, nar0', nar1', or00, or01, or10, or11, rI, rIA, rIL, rA, rAI, rAL, rL, rLI, rLA, ru, ruL, reduceIte, Nat.reduceEqDiff, true_or, or_true, true_and, and_true, false_or, or_false, not_true_eq_false, not_false_eq_true, false_implies, true_implies, implies_true, i10, i01]
        refine ⟨by omega, by omega, fun h => give (Or.inl ?_), fun h => ⟨fun h5 => go _ (Or.inr ⟨rfl, fun hh => ?_⟩), fun h5 => give (Or.inr ?_)⟩⟩
        · exact Classical.byContradiction fun hh => h ((isb_z i3).2 hh)
        · exact hh.1.elim ((isb_z i3).1 h) ((isb_z i5).1 h5)
        · exact Classical.byContradiction fun hh => h5 ((isb_z i5).2 hh)
      have first : ∀ (x5 : Int32), isb x5 (cpM z b e i) → pj_M_look_73 K (fun x1 x2 x3 z => lp_M_look_23 K (k + 1) x1 x2 x3 z) (ix b) (ix e) (ix i) (ix (30 * b + 6 * i)) x5 y := by
        intro x5 h5
        simp (disch := omega) only [pj_M_look_73, pj_M_look_103, pj_M_look_107, forall_eq, l0, l1, l2, l3, l4, l5, l6, l15, l16, l24, l30, l99, l100, l200, l385, lm1, ix_ne, ne_ix, ix_nat, vp_ix, ix_inj, ix_le, ix_lt, ix_add, ix_mul, ix_sub, nar0', nar1', or00, or01, or10, or11, rI, rIA, rIL, rA, rAI, rAL, rL, rLI, rLA, ru, ruL, reduceIte, Nat.reduceEqDiff, true_or, or_true, true_and, and_true, false_or, or_false, not_true_eq_false, not_false_eq_true, false_implies, true_implies, implies_true, i10, i01]
        have lks : (lk (cpM z b e) (gvM z b e) (i + 1)).2.1 = ((lk (cpM z b e) (gvM z b e) i).2.1 ∨ (cpM z b e i ∧ ¬ (lk (cpM z b e) (gvM z b e) i).1)) := rfl
        refine ⟨by omega, fun h => second y x5 _ hfr hoff h1 (Or.inl ⟨rfl, Or.inl ?_⟩) h3 h5, fun h => ⟨fun h6 => second y x5 _ hfr hoff h1 (Or.inr ⟨rfl, fun hh => ?_⟩) h3 h5, fun h6 => ⟨by omega, fun h7 => second y x5 _ hfr hoff h1 (Or.inr ⟨rfl, fun hh => ?_⟩) h3 h5, fun h7 => second y x5 _ hfr hoff h1 (Or.inl ⟨rfl, Or.inr ⟨?_, (isb_z h1).1 h7⟩⟩) h3 h5⟩⟩⟩
        · exact Classical.byContradiction fun hh => h ((isb_z h2).2 hh)
        · rw [lks] at hh; exact hh.elim ((isb_z h2).1 h) (fun hh => (isb_z h5).1 h6 hh.1)
        · rw [lks] at hh; exact hh.elim ((isb_z h2).1 h) (fun hh => h7 ((isb_z h1).2 hh.2))
        · exact Classical.byContradiction fun hh => h6 ((isb_z h5).2 hh)
      rw [lp_M_look_23]
      simp (disch := omega) only [h15, hsz, h16, pj_M_look_72, forall_eq, l0, l1, l2, l3, l4, l5, l6, l15, l16, l24, l30, l99, l100, l200, l385, lm1, ix_ne, ne_ix, ix_nat, vp_ix, ix_inj, ix_le, ix_lt, ix_add, ix_mul, ix_sub, nar0', nar1', or00, or01, or10, or11, rI, rIA, rIL, rA, rAI, rAL, rL, rLI, rLA, ru, ruL, reduceIte, Nat.reduceEqDiff, true_or, or_true, true_and, and_true, false_or, or_false, not_true_eq_false, not_false_eq_true, false_implies, true_implies, implies_true, i10, i01]
      refine ⟨by omega, fun h => absurd h (by omega), fun _ => ⟨by omega, fun h => first _ (Or.inr ⟨rfl, fun hh => h hh.1⟩), fun h => ⟨by omega, fun h2 => first _ (Or.inr ⟨rfl, fun hh => h2 hh.2⟩), fun h2 => first _ (Or.inl ⟨rfl, h, h2⟩)⟩⟩⟩
  simp (disch := omega) only [wp_M_look, forall_eq, l0, l1, l2, l3, l4, l5, l6, l15, l16, l24, l30, l99, l100, l200, l385, lm1, ix_ne, ne_ix, ix_nat, vp_ix, ix_inj, ix_le, ix_lt, ix_add, ix_mul, ix_sub, nar0', nar1', or00, or01, or10, or11, rI, rIA, rIL, rA, rAI, rAL, rL, rLI, rLA, ru, ruL, reduceIte, Nat.reduceEqDiff, true_or, or_true, true_and, and_true, false_or, or_false, not_true_eq_false, not_false_eq_true, false_implies, true_implies, implies_true, i10, i01]
  refine ⟨by omega, by omega, by omega, sz + 1, loop sz 0 _ (by omega) (fr_A (fr_A (fr_A (fr_refl z) (by decide) _) (by decide) _) (by decide) _) (fun a ha => ?_) ?_ ?_ ?_⟩
  · simp (disch := omega) only [if_neg ha, forall_eq, l0, l1, l2, l3, l4, l5, l6, l15, l16, l24, l30, l99, l100, l200, l385, lm1, ix_ne, ne_ix, ix_nat, vp_ix, ix_inj, ix_le, ix_lt, ix_add, ix_mul, ix_sub, nar0', nar1', or00, or01, or10, or11, rI, rIA, rIL, rA, rAI, rAL, rL, rLI, rLA, ru, ruL, reduceIte, Nat.reduceEqDiff, true_or, or_true, true_and, and_true, false_or, or_false, not_true_eq_false, not_false_eq_true, false_implies, true_implies, implies_true, i10, i01]
  · simp (disch := omega) only [forall_eq, l0, l1, l2, l3, l4, l5, l6, l15, l16, l24, l30, l99, l100, l200, l385, lm1, ix_ne, ne_ix, ix_nat, vp_ix, ix_inj, ix_le, ix_lt, ix_add, ix_mul, ix_sub, nar0', nar1', or00, or01, or10, or11, rI, rIA, rIL, rA, rAI, rAL, rL, rLI, rLA, ru, ruL, reduceIte, Nat.reduceEqDiff, true_or, or_true, true_and, and_true, false_or, or_false, not_true_eq_false, not_false_eq_true, false_implies, true_implies, implies_true, i10, i01]
    exact Or.inr ⟨rfl, fun h => h⟩
  · simp (disch := omega) only [forall_eq, l0, l1, l2, l3, l4, l5, l6, l15, l16, l24, l30, l99, l100, l200, l385, lm1, ix_ne, ne_ix, ix_nat, vp_ix, ix_inj, ix_le, ix_lt, ix_add, ix_mul, ix_sub, nar0', nar1', or00, or01, or10, or11, rI, rIA, rIL, rA, rAI, rAL, rL, rLI, rLA, ru, ruL, reduceIte, Nat.reduceEqDiff, true_or, or_true, true_and, and_true, false_or, or_false, not_true_eq_false, not_false_eq_true, false_implies, true_implies, implies_true, i10, i01]
    exact Or.inr ⟨rfl, fun h => h⟩
  · simp (disch := omega) only [forall_eq, l0, l1, l2, l3, l4, l5, l6, l15, l16, l24, l30, l99, l100, l200, l385, lm1, ix_ne, ne_ix, ix_nat, vp_ix, ix_inj, ix_le, ix_lt, ix_add, ix_mul, ix_sub, nar0', nar1', or00, or01, or10, or11, rI, rIA, rIL, rA, rAI, rAL, rL, rLI, rLA, ru, ruL, reduceIte, Nat.reduceEqDiff, true_or, or_true, true_and, and_true, false_or, or_false, not_true_eq_false, not_false_eq_true, false_implies, true_implies, implies_true, i10, i01]
    exact Or.inr ⟨rfl, fun h => h⟩
end
section
def mu (v : Nat → Int64) : Nat := cnt (fun i => hb (v (i / 24)) (i % 24)) 384
def FJ (PF : Nat → (Nat → Prop) → Prop) (v0 : Nat → Int64) (Q ch : Prop) (v : Nat → Int64) : Prop :=
  (∀ b e, b < 16 → hb (v0 b) e = true → e < 24) ∧ (∀ e X b, e < 24 → PF e X → b < 16 → X b → hb (v b) e = true) ∧ (∀ b e, b < 16 → hb (v b) e = true → hb (v0 b) e = true) ∧
  (¬ ch → (∀ b, b < 16 → v b = v0 b) ∧ Q) ∧ (ch → ∃ b e, b < 16 ∧ e < 24 ∧ hb (v0 b) e = true ∧ hb (v b) e = false)
theorem FJ_mono {PF : Nat → (Nat → Prop) → Prop} {v0 v : Nat → Int64} {Q Q' ch : Prop} (h : FJ PF v0 Q ch v) (hq : ¬ ch → Q → Q') : FJ PF v0 Q' ch v :=
  ⟨h.1, h.2.1, h.2.2.1, fun hc => ⟨(h.2.2.2.1 hc).1, hq hc (h.2.2.2.1 hc).2⟩, h.2.2.2.2⟩
theorem FJ_start {PF : Nat → (Nat → Prop) → Prop} {v0 v : Nat → Int64} {Q ch : Prop} (h : FJ PF v0 Q ch v) : FJ PF v True False v :=
  ⟨fun b e hb1 h1 => h.1 b e hb1 (h.2.2.1 b e hb1 h1), h.2.1, fun _ _ _ h => h, fun _ => ⟨fun _ _ => rfl, trivial⟩, fun h => h.elim⟩
theorem FJ_mu {PF : Nat → (Nat → Prop) → Prop} {v0 v : Nat → Int64} {Q ch : Prop} (h : FJ PF v0 Q ch v) (hc : ch) : mu v < mu v0 := by
  obtain ⟨b, e, hb16, he, h0, h1⟩ := h.2.2.2.2 hc
  refine cnt_lt (fun i hi hh => h.2.2.1 _ _ (by omega) hh) (k := b * 24 + e) (by omega) ?_ ?_
  · show hb (v ((b * 24 + e) / 24)) ((b * 24 + e) % 24) = false
    rw [show (b * 24 + e) / 24 = b by omega, show (b * 24 + e) % 24 = e by omega]; exact h1
  · show hb (v0 ((b * 24 + e) / 24)) ((b * 24 + e) % 24) = true
    rw [show (b * 24 + e) / 24 = b by omega, show (b * 24 + e) % 24 = e by omega]; exact h0
theorem mu_le (v : Nat → Int64) : mu v ≤ 384 := cnt_le _ _
theorem updL_self {v : Nat → Int64} {c : Nat} {x : Int64} (h : x = v c) : vp_updL v c x = v := by
  funext j; rw [ruL]; split
  · next e => rw [e, h]
  · rfl
theorem FJ_step {PF : Nat → (Nat → Prop) → Prop} {v0 v : Nat → Int64} {Q ch : Prop} {c : Nat} {al : Int64} {w x1 : Int32} (h : FJ PF v0 Q ch v) (hc : c < 16) (hal : ∀ e X, e < 24 → PF e X → X c → hb al e = true) (hw : isb w (¬ v c &&& al = v c)) (hx : isb x1 ch) :
    ∃ ch', isb (x1 ||| w) ch' ∧ (¬ ch' → ¬ ch) ∧ FJ PF v0 (Q ∧ v c &&& al = v c) ch' (vp_updL v c (v c &&& al)) := by
  by_cases e : v c &&& al = v c
  · refine ⟨ch, ?_, fun h => h, ?_⟩
    · rw [isb_f hw (fun hh => hh e)]
      rcases hx with ⟨hx, hh⟩ | ⟨hx, hh⟩ <;> rw [hx]
      · rw [or10]; exact Or.inl ⟨rfl, hh⟩
      · rw [or00]; exact Or.inr ⟨rfl, hh⟩
    · rw [updL_self e]; exact FJ_mono h (fun _ hq => ⟨hq, e⟩)
  · refine ⟨True, ?_, fun h => absurd trivial h, h.1, fun e X b he hP hb16 hX => ?_, fun b e hb16 hh => ?_, fun hh => absurd trivial hh, fun _ => ?_⟩
    · rw [isb_t hw e]
      rcases isb_b hx with hx | hx <;> rw [hx]
      · rw [or01]; exact Or.inl ⟨rfl, trivial⟩
      · rw [or11]; exact Or.inl ⟨rfl, trivial⟩
    · rw [ruL]; split
      · next e1 => rw [hb_and, h.2.1 e X c he hP hc (e1 ▸ hX), hal e X he hP (e1 ▸ hX)]; rfl
      · exact h.2.1 e X b he hP hb16 hX
    · rw [ruL] at hh; split at hh
      · next e1 =>
        rw [hb_and, Bool.and_eq_true] at hh
        rw [e1]; exact h.2.2.1 c e hc hh.1
      · exact h.2.2.1 b e hb16 hh
    · have : ∃ e0, ¬ hb (v c &&& al) e0 = hb (v c) e0 := Classical.byContradiction fun hn => e (hb_ext (fun e0 _ => Classical.byContradiction fun hh => hn ⟨e0, hh⟩))
      obtain ⟨e0, he0⟩ := this
      rw [hb_and] at he0
      have h1 : hb (v c) e0 = true := by
        cases h2 : hb (v c) e0
        · rw [h2] at he0; exact absurd rfl he0
        · rfl
      have h3 : hb al e0 = false := by
        cases h2 : hb al e0
        · rfl
        · rw [h1, h2] at he0; exact absurd rfl he0
      have h4 := h.2.2.1 c e0 hc h1
      refine ⟨c, e0, hc, h.1 c e0 hc h4, h4, ?_⟩
      rw [ruL, if_pos rfl, hb_and, h1, h3]; rfl
theorem s_O_narrow_20 {z : Sta} {K : Int32 → Sta → Prop} {c : Nat} {al : Int64} (hc : c < 16) (h : ∀ w, isb w (¬ z.2.2 4 c &&& al = z.2.2 4 c) → K w (zL z 4 (vp_updL (z.2.2 4) c (z.2.2 4 c &&& al)))) : wp_O_narrow_20 (ix c) al z K := by
  simp (disch := omega) only [wp_O_narrow_20, pj_O_narrow_20_33, forall_eq, l0, l1, l2, l3, l4, l5, l6, l15, l16, l24, l30, l99, l100, l200, l385, lm1, ix_ne, ne_ix, ix_nat, vp_ix, ix_inj, ix_le, ix_lt, ix_add, ix_mul, ix_sub, nar0', nar1', or00, or01, or10, or11, rI, rIA, rIL, rA, rAI, rAL, rL, rLI, rLA, ru, ruL, reduceIte, Nat.reduceEqDiff, true_or, or_true, true_and, and_true, false_or, or_false, not_true_eq_false, not_false_eq_true, false_implies, true_implies, implies_true, i10, i01]
  refine ⟨by omega, by omega, by omega, fun h0 => h _ (Or.inr ⟨rfl, fun hh => hh (cmp0.1 h0)⟩), fun h0 => h _ (Or.inl ⟨rfl, fun hh => h0 (cmp0.2 hh)⟩)⟩
theorem s_O_narrow_20m {z : Sta} {K : Int32 → Sta → Prop} {al : Int64} (h : K (ix 0) z) : wp_O_narrow_20 mi al z K := by
  simp (disch := omega) only [wp_O_narrow_20, forall_eq, l0, l1, l2, l3, l4, l5, l6, l15, l16, l24, l30, l99, l100, l200, l385, lm1, ix_ne, ne_ix, ix_nat, vp_ix, ix_inj, ix_le, ix_lt, ix_add, ix_mul, ix_sub, nar0', nar1', or00, or01, or10, or11, rI, rIA, rIL, rA, rAI, rAL, rL, rLI, rLA, ru, ruL, reduceIte, Nat.reduceEqDiff, true_or, or_true, true_and, and_true, false_or, or_false, not_true_eq_false, not_false_eq_true, false_implies, true_implies, implies_true, i10, i01]
  exact h
theorem s_O_narrow_22 {z : Sta} {K : Int32 → Sta → Prop} {c : Nat} {al : Int64} (hc : c < 16) (h : ∀ w, isb w (¬ z.2.2 6 c &&& al = z.2.2 6 c) → K w (zL z 6 (vp_updL (z.2.2 6) c (z.2.2 6 c &&& al)))) : wp_O_narrow_22 (ix c) al z K := by
  simp (disch := omega) only [wp_O_narrow_22, pj_O_narrow_22_33, forall_eq, l0, l1, l2, l3, l4, l5, l6, l15, l16, l24, l30, l99, l100, l200, l385, lm1, ix_ne, ne_ix, ix_nat, vp_ix, ix_inj, ix_le, ix_lt, ix_add, ix_mul, ix_sub, nar0', nar1', or00, or01, or10, or11, rI, rIA, rIL, rA, rAI, rAL, rL, rLI, rLA, ru, ruL, reduceIte, Nat.reduceEqDiff, true_or, or_true, true_and, and_true, false_or, or_false, not_true_eq_false, not_false_eq_true, false_implies, true_implies, implies_true, i10, i01]
  refine ⟨by omega, by omega, by omega, fun h0 => h _ (Or.inr ⟨rfl, fun hh => hh (cmp0.1 h0)⟩), fun h0 => h _ (Or.inl ⟨rfl, fun hh => h0 (cmp0.2 hh)⟩)⟩
theorem s_O_narrow_24 {z : Sta} {K : Int32 → Sta → Prop} {c : Nat} {al : Int64} (hc : c < 16) (h : ∀ w, isb w (¬ z.2.2 8 c &&& al = z.2.2 8 c) → K w (zL z 8 (vp_updL (z.2.2 8) c (z.2.2 8 c &&& al)))) : wp_O_narrow_24 (ix c) al z K := by
  simp (disch := omega) only [wp_O_narrow_24, pj_O_narrow_24_33, forall_eq, l0, l1, l2, l3, l4, l5, l6, l15, l16, l24, l30, l99, l100, l200, l385, lm1, ix_ne, ne_ix, ix_nat, vp_ix, ix_inj, ix_le, ix_lt, ix_add, ix_mul, ix_sub, nar0', nar1', or00, or01, or10, or11, rI, rIA, rIL, rA, rAI, rAL, rL, rLI, rLA, ru, ruL, reduceIte, Nat.reduceEqDiff, true_or, or_true, true_and, and_true, false_or, or_false, not_true_eq_false, not_false_eq_true, false_implies, true_implies, implies_true, i10, i01]
  refine ⟨by omega, by omega, by omega, fun h0 => h _ (Or.inr ⟨rfl, fun hh => hh (cmp0.1 h0)⟩), fun h0 => h _ (Or.inl ⟨rfl, fun hh => h0 (cmp0.2 hh)⟩)⟩
theorem and_sub {a b : Int64} (h : a &&& b = a) (e : Nat) (he : hb a e = true) : hb b e = true := by
  rw [← h, hb_and, Bool.and_eq_true] at he; exact he.2
def PFt (n : Nat) (E : Nat → Nat → Prop) (Rc : Nat → Prop) (st L C : Nat → Nat → Prop) (e : Nat) (X : Nat → Prop) : Prop := ∀ b, X b → b < 16 ∧ b ≠ 0 ∧ st b e ∧ ∀ a, a < n → Rc a → E a b → (L a e ∨ (X a ∧ ¬ C a e))
theorem s_O_flowThere {n : Nat} {E : Nat → Nat → Prop} {Rc : Nat → Prop} {z : Sta} {K : Sta → Prop} (hn : n ≤ 16) (hn0 : 0 < n) (hN : z.1 2 = ix n)
    (hf : ∀ a, a < n → okS n (z.2.1 5 a) ∧ okS n (z.2.1 6 a)) (hfE : ∀ a c, a < n → c < n → (E a c ↔ z.2.1 5 a = ix c ∨ z.2.1 6 a = ix c))
    (hr : ∀ b, b < 16 → isb (z.2.1 10 b) (Rc b)) (hst : ∀ b e, b < 16 → hb (z.2.2 4 b) e = true → e < 24)
    (hK : ∀ y, fr [] [] [4, 5] z y →
      (∀ e X b, e < 24 → PFt n E Rc (fun b e => hb (z.2.2 4 b) e = true) (fun b e => hb (z.2.2 3 b) e = true) (fun b e => hb (z.2.2 1 b) e = true) e X → X b → hb (y.2.2 4 b) e = true) →
      (∀ b e, b < 16 → hb (y.2.2 4 b) e = true → hb (z.2.2 4 b) e = true) → (∀ e, hb (y.2.2 4 0) e = false) →
      (∀ a, a < n → Rc a → y.2.2 5 a = z.2.2 3 a ||| (y.2.2 4 a &&& (z.2.2 1 a ^^^ (-1)))) →
      (∀ a c, a < n → Rc a → c < n → E a c → ∀ e, hb (y.2.2 4 c) e = true → hb (y.2.2 5 a) e = true) →
      (∀ a, a < n → ¬ Rc a → y.2.2 5 a = z.2.2 5 a) → K y) : wp_O_flowThere z K := by
  let PF := PFt n E Rc (fun b e => hb (z.2.2 4 b) e = true) (fun b e => hb (z.2.2 3 b) e = true) (fun b e => hb (z.2.2 1 b) e = true)
  let TH : (Nat → Int64) → Nat → Int64 := fun v a => z.2.2 3 a ||| (v a &&& (z.2.2 1 a ^^^ (-1)))
  let Q : Nat → Sta → Prop := fun i y => ∀ a, a < i → Rc a → y.2.2 5 a = TH (y.2.2 4) a ∧ ∀ c, c < n → E a c → ∀ e, hb (y.2.2 4 c) e = true → hb (TH (y.2.2 4) a) e = true
  let I : Sta → Prop := fun y => fr [] [] [4, 5] z y ∧ (∀ e, hb (y.2.2 4 0) e = false) ∧ (∀ b e, b < 16 → hb (y.2.2 4 b) e = true → hb (z.2.2 4 b) e = true) ∧ (∀ a, a < n → ¬ Rc a → y.2.2 5 a = z.2.2 5 a)
  have inner : ∀ (v0 : Nat → Int64) (R : Int32 → Int32 → Sta → Prop) (x2 : Int32) (k i : Nat) (ch : Prop) (x1 : Int32) (y : Sta), i + k = n → I y → isb x1 ch → FJ PF v0 (Q i y) ch (y.2.2 4) →
      (∀ (ch : Prop) (x1 : Int32) (y : Sta), I y → isb x1 ch → FJ PF v0 (Q n y) ch (y.2.2 4) → R x1 (x2 + ix 1) y) →
      lp_O_flowThere_26 K R (k + 1) x1 x2 (ix i) y := by
    intro v0 R x2 k
    induction k with
    | zero =>
      intro i ch x1 y hik hI hx hJ hR
      have hN' : y.1 2 = ix n := (hI.1.1 2 (by decide)).trans hN
      rw [lp_O_flowThere_26]
      simp (disch := omega) only [hN', forall_eq, l0, l1, l2, l3, l4, l5, l6, l15, l16, l24, l30, l99, l100, l200, l385, lm1, ix_ne, ne_ix, ix_nat, vp_ix, ix_inj, ix_le, ix_lt, ix_add, ix_mul, ix_sub, nar0', nar1', or00, or01, or10, or11, rI, rIA, rIL, rA, rAI, rAL, rL, rLI, rLA, ru, ruL, reduceIte, Nat.reduceEqDiff, true_or, or_true, true_and, and_true, false_or, or_false, not_true_eq_false, not_false_eq_true, false_implies, true_implies, implies_true, i10, i01]
      have : i = n := by omega
      subst this
      exact ⟨fun _ => hR ch x1 y hI hx hJ, fun h => absurd (by omega) h⟩
    | succ k ih =>
      intro i ch x1 y hik hI hx hJ hR
      obtain ⟨hfr, hz0, hsub, hun⟩ := hI
      have hN' : y.1 2 = ix n := (hfr.1 2 (by decide)).trans hN
      have h5 : y.2.1 5 = z.2.1 5 := hfr.2.1 5 (by decide)
      have h6 : y.2.1 6 = z.2.1 6 := hfr.2.1 6 (by decide)
      have h10 : y.2.1 10 = z.2.1 10 := hfr.2.1 10 (by decide)
      have l1' : y.2.2 1 = z.2.2 1 := hfr.2.2 1 (by decide)
      have l3' : y.2.2 3 = z.2.2 3 := hfr.2.2 3 (by decide)
      rw [lp_O_flowThere_26]
      simp (disch := omega) only [pj_O_flowThere_126, hN', h5, h10, l1', l3', forall_eq, l0, l1, l2, l3, l4, l5, l6, l15, l16, l24, l30, l99, l100, l200, l385, lm1, ix_ne, ne_ix, ix_nat, vp_ix, ix_inj, ix_le, ix_lt, ix_add, ix_mul, ix_sub, nar0', nar1', or00, or01, or10, or11, rI, rIA, rIL, rA, rAI, rAL, rL, rLI, rLA, ru, ruL, reduceIte, Nat.reduceEqDiff, true_or, or_true, true_and, and_true, false_or, or_false, not_true_eq_false, not_false_eq_true, false_implies, true_implies, implies_true, i10, i01]
      refine ⟨fun h => absurd h (by omega), fun _ => ⟨by omega, fun h0 => ?_, fun h0 => ⟨by omega, by omega, by omega, by omega, by omega, by omega, ?_⟩⟩⟩
      · refine ih (i + 1) ch x1 y (by omega) ⟨hfr, hz0, hsub, hun⟩ hx (FJ_mono hJ fun _ hq a ha hra => ?_) hR
        rcases Nat.lt_or_ge a i with e | e
        · exact hq a e hra
        · have : a = i := by omega
          subst this; exact absurd hra ((isb_z (hr a (by omega))).1 h0)
      · have hri : Rc i := Classical.byContradiction fun hh => h0 ((isb_z (hr i (by omega))).2 hh)
        have step : ∀ (s : Int32) (ch : Prop) (x1 : Int32) (y1 : Sta) (D : Nat → Prop) (K2 : Int32 → Sta → Prop), okS n s → (∀ c, c < n → s = ix c → E i c) → I y1 → isb x1 ch →
            (∃ va : Int64, y1.2.2 5 i = z.2.2 3 i ||| (va &&& (z.2.2 1 i ^^^ (-1))) ∧ (∀ e X, e < 24 → PF e X → X i → hb va e = true) ∧ (¬ ch → va = y1.2.2 4 i)) →
            FJ PF v0 (Q i y1 ∧ ∀ c, c < n → D c → y1.2.2 4 c &&& y1.2.2 5 i = y1.2.2 4 c) ch (y1.2.2 4) →
            (∀ (ch : Prop) (w : Int32) (y2 : Sta), I y2 → isb (x1 ||| w) ch → (∃ va : Int64, y2.2.2 5 i = z.2.2 3 i ||| (va &&& (z.2.2 1 i ^^^ (-1))) ∧ (∀ e X, e < 24 → PF e X → X i → hb va e = true) ∧ (¬ ch → va = y2.2.2 4 i)) →
              FJ PF v0 (Q i y2 ∧ ∀ c, c < n → (D c ∨ s = ix c) → y2.2.2 4 c &&& y2.2.2 5 i = y2.2.2 4 c) ch (y2.2.2 4) → K2 w y2) → wp_O_narrow_20 s (y1.2.2 5 i) y1 K2 := by
          intro s ch x1 y1 D K2 hs hsE hI1 hx1 hva hJ1 hK2
          rcases hs with rfl | ⟨c, hc, rfl⟩
          · refine s_O_narrow_20m (hK2 ch _ y1 hI1 ?_ hva (FJ_mono hJ1 fun _ hq => ⟨hq.1, fun c hc hD => ?_⟩))
            · rcases hx1 with ⟨e, hc⟩ | ⟨e, hc⟩
              · rw [e, or10]; exact Or.inl ⟨rfl, hc⟩
              · rw [e, or00]; exact Or.inr ⟨rfl, hc⟩
            · rcases hD with hD | hD
              · exact hq.2 c hc hD
              · exact absurd hD (ne_ix (by omega))
          · obtain ⟨va, hva1, hva2, hva3⟩ := hva
            have hal : ∀ e X, e < 24 → PF e X → X c → hb (y1.2.2 5 i) e = true := by
              intro e X he hP hX
              rw [hva1, hb_or, hb_andn, Bool.or_eq_true, Bool.and_eq_true]
              rcases (hP c hX).2.2.2 i (by omega) hri (hsE c hc rfl) with h | ⟨h1, h2⟩
              · exact Or.inl h
              · refine Or.inr ⟨hva2 e X he hP h1, ?_⟩
                rw [Bool.not_eq_true']; exact Bool.eq_false_iff.2 h2
            refine s_O_narrow_20 (by omega) (fun w hw => ?_)
            obtain ⟨ch', hx', hcc, hJ'⟩ := FJ_step hJ1 (by omega) hal hw hx1
            have h4eq : ¬ ch' → vp_updL (y1.2.2 4) c (y1.2.2 4 c &&& y1.2.2 5 i) = y1.2.2 4 := by
              intro hh
              exact updL_self ((hJ'.2.2.2.1 hh).2.2)
            refine hK2 ch' w _ ⟨fr_L hI1.1 (by decide) _, fun e => ?_, fun b e hb1 hh => ?_, fun a ha hh => ?_⟩ hx' ⟨va, ?_, hva2, fun hh => ?_⟩ ?_
            · simp (disch := omega) only [forall_eq, l0, l1, l2, l3, l4, l5, l6, l15, l16, l24, l30, l99, l100, l200, l385, lm1, ix_ne, ne_ix, ix_nat, vp_ix, ix_inj, ix_le, ix_lt, ix_add, ix_mul, ix_sub, nar0', nar1', or00, or01, or10, or11, rI, rIA, rIL, rA, rAI, rAL, rL, rLI, rLA, ru, ruL, reduceIte, Nat.reduceEqDiff, true_or, or_true, true_and, and_true, false_or, or_false, not_true_eq_false, not_false_eq_true, false_implies, true_implies, implies_true, i10, i01]
              split
              · next e0 => rw [hb_and, ← e0, hI1.2.1 e]; rfl
              · exact hI1.2.1 e
            · revert hh
              simp (disch := omega) only [forall_eq, l0, l1, l2, l3, l4, l5, l6, l15, l16, l24, l30, l99, l100, l200, l385, lm1, ix_ne, ne_ix, ix_nat, vp_ix, ix_inj, ix_le, ix_lt, ix_add, ix_mul, ix_sub, nar0', nar1', or00, or01, or10, or11, rI, rIA, rIL, rA, rAI, rAL, rL, rLI, rLA, ru, ruL, reduceIte, Nat.reduceEqDiff, true_or, or_true, true_and, and_true, false_or, or_false, not_true_eq_false, not_false_eq_true, false_implies, true_implies, implies_true, i10, i01]
              split
              · next e0 => intro hh; rw [hb_and, Bool.and_eq_true] at hh; rw [e0]; exact hI1.2.2.1 c e (by omega) hh.1
              · exact hI1.2.2.1 b e hb1
            · simp (disch := omega) only [forall_eq, l0, l1, l2, l3, l4, l5, l6, l15, l16, l24, l30, l99, l100, l200, l385, lm1, ix_ne, ne_ix, ix_nat, vp_ix, ix_inj, ix_le, ix_lt, ix_add, ix_mul, ix_sub, nar0', nar1', or00, or01, or10, or11, rI, rIA, rIL, rA, rAI, rAL, rL, rLI, rLA, ru, ruL, reduceIte, Nat.reduceEqDiff, true_or, or_true, true_and, and_true, false_or, or_false, not_true_eq_false, not_false_eq_true, false_implies, true_implies, implies_true, i10, i01]
              exact hI1.2.2.2 a ha hh
            · simp (disch := omega) only [forall_eq, l0, l1, l2, l3, l4, l5, l6, l15, l16, l24, l30, l99, l100, l200, l385, lm1, ix_ne, ne_ix, ix_nat, vp_ix, ix_inj, ix_le, ix_lt, ix_add, ix_mul, ix_sub, nar0', nar1', or00, or01, or10, or11, rI, rIA, rIL, rA, rAI, rAL, rL, rLI, rLA, ru, ruL, reduceIte, Nat.reduceEqDiff, true_or, or_true, true_and, and_true, false_or, or_false, not_true_eq_false, not_false_eq_true, false_implies, true_implies, implies_true, i10, i01]
              exact hva1
            · show va = vp_updL (y1.2.2 4) c (y1.2.2 4 c &&& y1.2.2 5 i) i
              rw [h4eq hh]; exact hva3 (hcc hh)
            · show FJ PF v0 _ ch' (vp_updL (y1.2.2 4) c (y1.2.2 4 c &&& y1.2.2 5 i))
              refine FJ_mono hJ' fun hh hq => ?_
              obtain ⟨⟨hq1, hq2⟩, hq3⟩ := hq
              refine ⟨fun a ha hra => ?_, fun c2 hc2 hD => ?_⟩
              · show y1.2.2 5 a = TH (vp_updL (y1.2.2 4) c (y1.2.2 4 c &&& y1.2.2 5 i)) a ∧ ∀ c3, c3 < n → E a c3 → ∀ e, hb (vp_updL (y1.2.2 4) c (y1.2.2 4 c &&& y1.2.2 5 i) c3) e = true → hb (TH (vp_updL (y1.2.2 4) c (y1.2.2 4 c &&& y1.2.2 5 i)) a) e = true
                rw [h4eq hh]; exact hq1 a ha hra
              · show vp_updL (y1.2.2 4) c (y1.2.2 4 c &&& y1.2.2 5 i) c2 &&& y1.2.2 5 i = vp_updL (y1.2.2 4) c (y1.2.2 4 c &&& y1.2.2 5 i) c2
                rw [h4eq hh]
                rcases hD with hD | hD
                · exact hq2 c2 hc2 hD
                · rw [ix_inj (by omega) (by omega)] at hD; subst hD; exact hq3
        have hI1 : I (zL y 5 (vp_updL (y.2.2 5) i (z.2.2 3 i ||| (y.2.2 4 i &&& (z.2.2 1 i ^^^ (-1)))))) := by
          refine ⟨fr_L hfr (by decide) _, fun e => ?_, fun b e hb1 hh => ?_, fun a ha hh => ?_⟩
          · simp (disch := omega) only [forall_eq, l0, l1, l2, l3, l4, l5, l6, l15, l16, l24, l30, l99, l100, l200, l385, lm1, ix_ne, ne_ix, ix_nat, vp_ix, ix_inj, ix_le, ix_lt, ix_add, ix_mul, ix_sub, nar0', nar1', or00, or01, or10, or11, rI, rIA, rIL, rA, rAI, rAL, rL, rLI, rLA, ru, ruL, reduceIte, Nat.reduceEqDiff, true_or, or_true, true_and, and_true, false_or, or_false, not_true_eq_false, not_false_eq_true, false_implies, true_implies, implies_true, i10, i01]
            exact hz0 e
          · revert hh
            simp (disch := omega) only [forall_eq, l0, l1, l2, l3, l4, l5, l6, l15, l16, l24, l30, l99, l100, l200, l385, lm1, ix_ne, ne_ix, ix_nat, vp_ix, ix_inj, ix_le, ix_lt, ix_add, ix_mul, ix_sub, nar0', nar1', or00, or01, or10, or11, rI, rIA, rIL, rA, rAI, rAL, rL, rLI, rLA, ru, ruL, reduceIte, Nat.reduceEqDiff, true_or, or_true, true_and, and_true, false_or, or_false, not_true_eq_false, not_false_eq_true, false_implies, true_implies, implies_true, i10, i01]
            exact hsub b e hb1
          · have : a ≠ i := fun e => hh (e ▸ hri)
            simp (disch := omega) only [if_neg this, forall_eq, l0, l1, l2, l3, l4, l5, l6, l15, l16, l24, l30, l99, l100, l200, l385, lm1, ix_ne, ne_ix, ix_nat, vp_ix, ix_inj, ix_le, ix_lt, ix_add, ix_mul, ix_sub, nar0', nar1', or00, or01, or10, or11, rI, rIA, rIL, rA, rAI, rAL, rL, rLI, rLA, ru, ruL, reduceIte, Nat.reduceEqDiff, true_or, or_true, true_and, and_true, false_or, or_false, not_true_eq_false, not_false_eq_true, false_implies, true_implies, implies_true, i10, i01]
            exact hun a ha hh
        have hJ1 : FJ PF v0 (Q i (zL y 5 (vp_updL (y.2.2 5) i (z.2.2 3 i ||| (y.2.2 4 i &&& (z.2.2 1 i ^^^ (-1)))))) ∧ ∀ c, c < n → False → (zL y 5 (vp_updL (y.2.2 5) i (z.2.2 3 i ||| (y.2.2 4 i &&& (z.2.2 1 i ^^^ (-1)))))).2.2 4 c &&& (zL y 5 (vp_updL (y.2.2 5) i (z.2.2 3 i ||| (y.2.2 4 i &&& (z.2.2 1 i ^^^ (-1)))))).2.2 5 i = (zL y 5 (vp_updL (y.2.2 5) i (z.2.2 3 i ||| (y.2.2 4 i &&& (z.2.2 1 i ^^^ (-1)))))).2.2 4 c) ch ((zL y 5 (vp_updL (y.2.2 5) i (z.2.2 3 i ||| (y.2.2 4 i &&& (z.2.2 1 i ^^^ (-1)))))).2.2 4) := by
          refine FJ_mono (Q := Q i y) ?_ fun _ hq => ⟨fun a ha hra => ?_, fun _ _ h => h.elim⟩
          · simp (disch := omega) only [forall_eq, l0, l1, l2, l3, l4, l5, l6, l15, l16, l24, l30, l99, l100, l200, l385, lm1, ix_ne, ne_ix, ix_nat, vp_ix, ix_inj, ix_le, ix_lt, ix_add, ix_mul, ix_sub, nar0', nar1', or00, or01, or10, or11, rI, rIA, rIL, rA, rAI, rAL, rL, rLI, rLA, ru, ruL, reduceIte, Nat.reduceEqDiff, true_or, or_true, true_and, and_true, false_or, or_false, not_true_eq_false, not_false_eq_true, false_implies, true_implies, implies_true, i10, i01]
            exact hJ
          · have : a ≠ i := by omega
            simp (disch := omega) only [if_neg this, forall_eq, l0, l1, l2, l3, l4, l5, l6, l15, l16, l24, l30, l99, l100, l200, l385, lm1, ix_ne, ne_ix, ix_nat, vp_ix, ix_inj, ix_le, ix_lt, ix_add, ix_mul, ix_sub, nar0', nar1', or00, or01, or10, or11, rI, rIA, rIL, rA, rAI, rAL, rL, rLI, rLA, ru, ruL, reduceIte, Nat.reduceEqDiff, true_or, or_true, true_and, and_true, false_or, or_false, not_true_eq_false, not_false_eq_true, false_implies, true_implies, implies_true, i10, i01]
            exact hq a ha hra
        have h5i : (zL y 5 (vp_updL (y.2.2 5) i (z.2.2 3 i ||| (y.2.2 4 i &&& (z.2.2 1 i ^^^ (-1)))))).2.2 5 i = z.2.2 3 i ||| (y.2.2 4 i &&& (z.2.2 1 i ^^^ (-1))) := by
          simp (disch := omega) only [forall_eq, l0, l1, l2, l3, l4, l5, l6, l15, l16, l24, l30, l99, l100, l200, l385, lm1, ix_ne, ne_ix, ix_nat, vp_ix, ix_inj, ix_le, ix_lt, ix_add, ix_mul, ix_sub, nar0', nar1', or00, or01, or10, or11, rI, rIA, rIL, rA, rAI, rAL, rL, rLI, rLA, ru, ruL, reduceIte, Nat.reduceEqDiff, true_or, or_true, true_and, and_true, false_or, or_false, not_true_eq_false, not_false_eq_true, false_implies, true_implies, implies_true, i10, i01]
        refine Eq.mp (congrArg (fun a => wp_O_narrow_20 _ a _ _) h5i) (step _ ch x1 _ (fun _ => False) _ (hf i (by omega)).1 (fun c hc e => (hfE i c (by omega) hc).2 (Or.inl e)) hI1 hx ⟨_, h5i, fun e X he hP hX => hJ.2.1 e X i he hP (by omega) hX, fun _ => rfl⟩ hJ1 (fun ch1 w1 y1 hI2 hx1 hva hJ2 => ?_))
        have h6' : y1.2.1 6 = z.2.1 6 := hI2.1.2.1 6 (by decide)
        rw [h6']
        refine ⟨by omega, by omega, ?_⟩
        refine step _ ch1 _ y1 _ _ (hf i (by omega)).2 (fun c hc e => (hfE i c (by omega) hc).2 (Or.inr e)) hI2 hx1 hva hJ2 (fun ch2 w2 y2 hI3 hx2 hva2 hJ3 => ?_)
        refine ih (i + 1) ch2 _ y2 (by omega) hI3 hx2 (FJ_mono hJ3 fun hh hq a ha hra => ?_) hR
        rcases Nat.lt_or_ge a i with e | e
        · exact hq.1 a e hra
        · have e2 : a = i := by omega
          subst e2
          obtain ⟨va, hva1, _, hva3⟩ := hva2
          have hTH : y2.2.2 5 a = TH (y2.2.2 4) a := by rw [hva1, hva3 hh]
          refine ⟨hTH, fun c hc he e hh2 => ?_⟩
          rw [← hTH]
          refine and_sub (hq.2 c hc ?_) e hh2
          rcases (hfE a c (by omega) hc).1 he with h | h
          · exact Or.inl (Or.inr h)
          · exact Or.inr h
  have fin : ∀ (ch : Prop) (y : Sta) (v0 : Nat → Int64), I y → FJ PF v0 (Q n y) ch (y.2.2 4) → ¬ ch → K y := by
    intro ch y v0 hI hJ hc
    have hq := (hJ.2.2.2.1 hc).2
    refine hK y hI.1 (fun e X b he hP hX => hJ.2.1 e X b he hP (hP b hX).1 hX) hI.2.2.1 hI.2.1 (fun a ha hra => (hq a ha hra).1) (fun a c ha hra hc he e hh => ?_) hI.2.2.2
    rw [(hq a ha hra).1]; exact (hq a ha hra).2 c hc he e hh
  have outer : ∀ (k i : Nat) (x1 : Int32) (ch : Prop) (y : Sta) (v0 : Nat → Int64), i + k = 385 → I y → isb x1 ch → FJ PF v0 (Q n y) ch (y.2.2 4) → (ch → mu (y.2.2 4) + i ≤ 384) → lp_O_flowThere_11 K (k + 1) x1 (ix i) y := by
    intro k
    induction k with
    | zero =>
      intro i x1 ch y v0 hik hI hx hJ hm
      rw [lp_O_flowThere_11]
      simp (disch := omega) only [pj_O_flowThere_138, forall_eq, l0, l1, l2, l3, l4, l5, l6, l15, l16, l24, l30, l99, l100, l200, l385, lm1, ix_ne, ne_ix, ix_nat, vp_ix, ix_inj, ix_le, ix_lt, ix_add, ix_mul, ix_sub, nar0', nar1', or00, or01, or10, or11, rI, rIA, rIL, rA, rAI, rAL, rL, rLI, rLA, ru, ruL, reduceIte, Nat.reduceEqDiff, true_or, or_true, true_and, and_true, false_or, or_false, not_true_eq_false, not_false_eq_true, false_implies, true_implies, implies_true, i10, i01]
      refine ⟨fun h0 => fin ch y v0 hI hJ ((isb_z hx).1 h0), fun h0 => ⟨fun _ => ?_, fun h => absurd (by omega) h⟩⟩
      have hc : ch := Classical.byContradiction fun h => h0 ((isb_z hx).2 h)
      have := hm hc; omega
    | succ k ih =>
      intro i x1 ch y v0 hik hI hx hJ hm
      rw [lp_O_flowThere_11]
      simp (disch := omega) only [pj_O_flowThere_138, forall_eq, l0, l1, l2, l3, l4, l5, l6, l15, l16, l24, l30, l99, l100, l200, l385, lm1, ix_ne, ne_ix, ix_nat, vp_ix, ix_inj, ix_le, ix_lt, ix_add, ix_mul, ix_sub, nar0', nar1', or00, or01, or10, or11, rI, rIA, rIL, rA, rAI, rAL, rL, rLI, rLA, ru, ruL, reduceIte, Nat.reduceEqDiff, true_or, or_true, true_and, and_true, false_or, or_false, not_true_eq_false, not_false_eq_true, false_implies, true_implies, implies_true, i10, i01]
      refine ⟨fun h0 => fin ch y v0 hI hJ ((isb_z hx).1 h0), fun h0 => ⟨fun h => absurd h (by omega), fun _ => ⟨n + 1, ?_⟩⟩⟩
      have hc : ch := Classical.byContradiction fun h => h0 ((isb_z hx).2 h)
      refine inner (y.2.2 4) _ _ n 0 False (ix 0) y (by omega) hI (Or.inr ⟨rfl, fun h => h⟩) (FJ_mono (FJ_start hJ) fun _ _ a ha => absurd ha (by omega)) (fun ch1 x1 y1 hI1 hx1 hJ1 => ?_)
      rw [ix_add]
      refine ih (i + 1) x1 ch1 y1 _ (by omega) hI1 hx1 hJ1 (fun h => ?_)
      have := FJ_mu hJ1 h; have := hm hc; omega
  simp (disch := omega) only [wp_O_flowThere, forall_eq, l0, l1, l2, l3, l4, l5, l6, l15, l16, l24, l30, l99, l100, l200, l385, lm1, ix_ne, ne_ix, ix_nat, vp_ix, ix_inj, ix_le, ix_lt, ix_add, ix_mul, ix_sub, nar0', nar1', or00, or01, or10, or11, rI, rIA, rIL, rA, rAI, rAL, rL, rLI, rLA, ru, ruL, reduceIte, Nat.reduceEqDiff, true_or, or_true, true_and, and_true, false_or, or_false, not_true_eq_false, not_false_eq_true, false_implies, true_implies, implies_true, i10, i01]
  refine ⟨by omega, 386, ?_⟩
  have hsub0 : ∀ b e, hb ((zL z 4 (vp_updL (z.2.2 4) 0 0)).2.2 4 b) e = true → hb (z.2.2 4 b) e = true := by
    intro b e
    show hb (vp_updL (z.2.2 4) 0 0 b) e = true → _
    rw [ruL]; split
    · rw [hb_0]; exact fun h => absurd h Bool.false_ne_true
    · exact id
  have h00 : ∀ e, hb ((zL z 4 (vp_updL (z.2.2 4) 0 0)).2.2 4 0) e = false := by
    intro e
    show hb (vp_updL (z.2.2 4) 0 0 0) e = false
    rw [ruL, if_pos rfl]; exact hb_0 e
  have hone : ∀ e, hb 1 e = true → e < 24 := by
    intro e h
    rcases Nat.lt_or_ge e 64 with he | he
    · have : ∀ e, e < 64 → hb 1 e = true → e < 24 := by decide +kernel
      exact this e he h
    · rw [hb_ge _ he] at h; exact absurd h Bool.false_ne_true
  refine outer 385 0 (ix 1) True _ (fun b => if b = 0 then 1 else (zL z 4 (vp_updL (z.2.2 4) 0 0)).2.2 4 b) (by omega) ⟨fr_L (fr_refl z) (by decide) _, h00, fun b e _ => hsub0 b e, fun a ha hh => ?_⟩ (Or.inl ⟨rfl, trivial⟩) ⟨fun b e hb1 hh => ?_, fun e X b he hP hb1 hX => ?_, fun b e hb1 hh => ?_, fun hh => absurd trivial hh, fun _ => ⟨0, 0, by omega, by omega, ?_, h00 0⟩⟩ (fun _ => Nat.le_trans (Nat.le_of_eq (Nat.add_zero _)) (mu_le _))
  · simp (disch := omega) only [forall_eq, l0, l1, l2, l3, l4, l5, l6, l15, l16, l24, l30, l99, l100, l200, l385, lm1, ix_ne, ne_ix, ix_nat, vp_ix, ix_inj, ix_le, ix_lt, ix_add, ix_mul, ix_sub, nar0', nar1', or00, or01, or10, or11, rI, rIA, rIL, rA, rAI, rAL, rL, rLI, rLA, ru, ruL, reduceIte, Nat.reduceEqDiff, true_or, or_true, true_and, and_true, false_or, or_false, not_true_eq_false, not_false_eq_true, false_implies, true_implies, implies_true, i10, i01]
  · dsimp only at hh; split at hh
    · exact hone e hh
    · exact hst b e hb1 (hsub0 b e hh)
  · show hb (vp_updL (z.2.2 4) 0 0 b) e = true
    obtain ⟨_, hb0, hs, _⟩ := hP b hX
    rw [ruL, if_neg hb0]; exact hs
  · dsimp only; split
    · next e0 => rw [e0, h00 e] at hh; exact absurd hh Bool.false_ne_true
    · exact hh
  · show hb (if 0 = 0 then 1 else _) 0 = true
    rw [if_pos rfl]; decide
def pm (k : Nat) : Int32 := if k = 0 then mi else ix (k - 1)
theorem pm_step {k : Nat} (hk : k < 2147483648) : ix k + mi = pm k := by
  simp only [pm]
  split
  · next h => rw [h]; decide
  · next h =>
    apply Int32.toInt_inj.1
    have e : ix k = ix (k - 1) + ix 1 := by rw [ix_add, show k - 1 + 1 = k by omega]
    rw [e, Int32.add_assoc, show ix 1 + mi = 0 by decide, Int32.add_zero]
theorem s_O_wantedByAll {n : Nat} {z : Sta} {K : Int64 → Sta → Prop} {s1 s2 : Int32} (hn : n ≤ 16) (h1 : okS n s1) (h2 : okS n s2) (h : K (if s1 = mi ∨ s2 = mi then 0 else z.2.2 6 s1.toNatClampNeg &&& z.2.2 6 s2.toNatClampNeg) z) : wp_O_wantedByAll s1 s2 z K := by
  rcases h1 with rfl | ⟨c, hc, rfl⟩
  · simp (disch := omega) only [wp_O_wantedByAll, pj_O_wantedByAll_10, forall_eq, l0, l1, l2, l3, l4, l5, l6, l15, l16, l24, l30, l99, l100, l200, l385, lm1, ix_ne, ne_ix, ix_nat, vp_ix, ix_inj, ix_le, ix_lt, ix_add, ix_mul, ix_sub, nar0', nar1', or00, or01, or10, or11, rI, rIA, rIL, rA, rAI, rAL, rL, rLI, rLA, ru, ruL, reduceIte, Nat.reduceEqDiff, true_or, or_true, true_and, and_true, false_or, or_false, not_true_eq_false, not_false_eq_true, false_implies, true_implies, implies_true, i10, i01]
    rw [if_pos (Or.inl rfl)] at h; exact h
  · rcases h2 with rfl | ⟨d, hd, rfl⟩
    · simp (disch := omega) only [wp_O_wantedByAll, pj_O_wantedByAll_10, forall_eq, l0, l1, l2, l3, l4, l5, l6, l15, l16, l24, l30, l99, l100, l200, l385, lm1, ix_ne, ne_ix, ix_nat, vp_ix, ix_inj, ix_le, ix_lt, ix_add, ix_mul, ix_sub, nar0', nar1', or00, or01, or10, or11, rI, rIA, rIL, rA, rAI, rAL, rL, rLI, rLA, ru, ruL, reduceIte, Nat.reduceEqDiff, true_or, or_true, true_and, and_true, false_or, or_false, not_true_eq_false, not_false_eq_true, false_implies, true_implies, implies_true, i10, i01]
      rw [if_pos (Or.inr rfl)] at h; exact h
    · rw [if_neg (fun hh => hh.elim (ix_ne (by omega)) (ix_ne (by omega))), ix_nat (by omega), ix_nat (by omega)] at h
      simp (disch := omega) only [wp_O_wantedByAll, pj_O_wantedByAll_10, forall_eq, l0, l1, l2, l3, l4, l5, l6, l15, l16, l24, l30, l99, l100, l200, l385, lm1, ix_ne, ne_ix, ix_nat, vp_ix, ix_inj, ix_le, ix_lt, ix_add, ix_mul, ix_sub, nar0', nar1', or00, or01, or10, or11, rI, rIA, rIL, rA, rAI, rAL, rL, rLI, rLA, ru, ruL, reduceIte, Nat.reduceEqDiff, true_or, or_true, true_and, and_true, false_or, or_false, not_true_eq_false, not_false_eq_true, false_implies, true_implies, implies_true, i10, i01]
      exact ⟨by omega, by omega, h⟩
def PFw (n : Nat) (E : Nat → Nat → Prop) (Rc : Nat → Prop) (st A C : Nat → Nat → Prop) (e : Nat) (X : Nat → Prop) : Prop := ∀ b, X b → b < 16 ∧ st b e ∧ (b < n → Rc b → (A b e ∨ (((∃ c, c < n ∧ E b c) ∧ ∀ c, c < n → E b c → X c) ∧ ¬ C b e)))
theorem s_O_flowWanted {n : Nat} {E : Nat → Nat → Prop} {Rc : Nat → Prop} {z : Sta} {K : Sta → Prop} (hn : n ≤ 16) (hn0 : 0 < n) (hN : z.1 2 = ix n)
    (hf : ∀ a, a < n → okS n (z.2.1 5 a) ∧ okS n (z.2.1 6 a)) (hb2 : ∀ a, a < n → (z.2.1 5 a = mi ↔ z.2.1 6 a = mi)) (hfE : ∀ a c, a < n → c < n → (E a c ↔ z.2.1 5 a = ix c ∨ z.2.1 6 a = ix c))
    (hr : ∀ b, b < 16 → isb (z.2.1 10 b) (Rc b)) (hst : ∀ b e, b < 16 → hb (z.2.2 6 b) e = true → e < 24)
    (hK : ∀ y, fr [] [] [6, 7] z y →
      (∀ e X b, e < 24 → PFw n E Rc (fun b e => hb (z.2.2 6 b) e = true) (fun b e => hb (z.2.2 2 b) e = true) (fun b e => hb (z.2.2 1 b) e = true) e X → X b → hb (y.2.2 6 b) e = true) →
      (∀ b e, b < 16 → hb (y.2.2 6 b) e = true → hb (z.2.2 6 b) e = true) →
      (∀ a e, a < n → Rc a → (hb (y.2.2 7 a) e = true ↔ (∃ c, c < n ∧ E a c) ∧ ∀ c, c < n → E a c → hb (y.2.2 6 c) e = true)) →
      (∀ a e, a < n → Rc a → hb (y.2.2 6 a) e = true → hb (z.2.2 2 a) e = true ∨ (hb (y.2.2 7 a) e = true ∧ ¬ hb (z.2.2 1 a) e = true)) →
      (∀ a, a < n → ¬ Rc a → y.2.2 7 a = z.2.2 7 a) → K y) : wp_O_flowWanted z K := by
  let PF := PFw n E Rc (fun b e => hb (z.2.2 6 b) e = true) (fun b e => hb (z.2.2 2 b) e = true) (fun b e => hb (z.2.2 1 b) e = true)
  let WB : (Nat → Int64) → Nat → Int64 := fun v a => if z.2.1 5 a = mi ∨ z.2.1 6 a = mi then 0 else v (z.2.1 5 a).toNatClampNeg &&& v (z.2.1 6 a).toNatClampNeg
  let AL : (Nat → Int64) → Nat → Int64 := fun v a => z.2.2 2 a ||| (WB v a &&& (z.2.2 1 a ^^^ (-1)))
  have hWB : ∀ (v : Nat → Int64) a e, a < n → (hb (WB v a) e = true ↔ (∃ c, c < n ∧ E a c) ∧ ∀ c, c < n → E a c → hb (v c) e = true) := by
    intro v a e ha
    show hb (if z.2.1 5 a = mi ∨ z.2.1 6 a = mi then 0 else v (z.2.1 5 a).toNatClampNeg &&& v (z.2.1 6 a).toNatClampNeg) e = true ↔ _
    rcases (hf a ha).1 with h1 | ⟨c, hc, h1⟩
    · rw [if_pos (Or.inl h1), hb_0]
      refine ⟨fun h => absurd h Bool.false_ne_true, fun h => ?_⟩
      obtain ⟨⟨c, hc, he⟩, _⟩ := h
      rcases (hfE a c ha hc).1 he with h | h
      · rw [h1] at h; exact absurd h (ne_ix (by omega))
      · rw [(hb2 a ha).1 h1] at h; exact absurd h (ne_ix (by omega))
    · rcases (hf a ha).2 with h2 | ⟨d, hd, h2⟩
      · rw [(hb2 a ha).2 h2] at h1; exact absurd h1 (ne_ix (by omega))
      · rw [h1, h2, if_neg (fun hh => hh.elim (ix_ne (by omega)) (ix_ne (by omega))), ix_nat (by omega), ix_nat (by omega), hb_and, Bool.and_eq_true]
        refine ⟨fun h => ⟨⟨c, hc, (hfE a c ha hc).2 (Or.inl h1)⟩, fun x hx he => ?_⟩, fun h => ⟨h.2 c hc ((hfE a c ha hc).2 (Or.inl h1)), h.2 d hd ((hfE a d ha hd).2 (Or.inr h2))⟩⟩
        rcases (hfE a x ha hx).1 he with e1 | e1
        · rw [h1, ix_inj (by omega) (by omega)] at e1; rw [← e1]; exact h.1
        · rw [h2, ix_inj (by omega) (by omega)] at e1; rw [← e1]; exact h.2
  let Q : Nat → Sta → Prop := fun i y => ∀ a, i ≤ a → a < n → Rc a → y.2.2 7 a = WB (y.2.2 6) a ∧ y.2.2 6 a &&& AL (y.2.2 6) a = y.2.2 6 a
  let I : Sta → Prop := fun y => fr [] [] [6, 7] z y ∧ (∀ b e, b < 16 → hb (y.2.2 6 b) e = true → hb (z.2.2 6 b) e = true) ∧ (∀ a, a < n → ¬ Rc a → y.2.2 7 a = z.2.2 7 a)
  have inner : ∀ (v0 : Nat → Int64) (R : Int32 → Int32 → Sta → Prop) (x2 : Int32) (k : Nat) (ch : Prop) (x1 : Int32) (y : Sta), k ≤ n → I y → isb x1 ch → FJ PF v0 (Q k y) ch (y.2.2 6) →
      (∀ (ch : Prop) (x1 : Int32) (y : Sta), I y → isb x1 ch → FJ PF v0 (Q 0 y) ch (y.2.2 6) → R x1 (x2 + ix 1) y) →
      lp_O_flowWanted_27 K R (k + 1) x1 x2 (pm k) y := by
    intro v0 R x2 k
    induction k with
    | zero =>
      intro ch x1 y hik hI hx hJ hR
      rw [lp_O_flowWanted_27]
      have hp : pm 0 = mi := rfl
      have hl : mi < ix 0 := by decide
      simp (disch := omega) only [hp, hl, forall_eq, l0, l1, l2, l3, l4, l5, l6, l15, l16, l24, l30, l99, l100, l200, l385, lm1, ix_ne, ne_ix, ix_nat, vp_ix, ix_inj, ix_le, ix_lt, ix_add, ix_mul, ix_sub, nar0', nar1', or00, or01, or10, or11, rI, rIA, rIL, rA, rAI, rAL, rL, rLI, rLA, ru, ruL, reduceIte, Nat.reduceEqDiff, true_or, or_true, true_and, and_true, false_or, or_false, not_true_eq_false, not_false_eq_true, false_implies, true_implies, implies_true, i10, i01]
      exact hR ch x1 y hI hx hJ
    | succ k ih =>
      intro ch x1 y hik hI hx hJ hR
      obtain ⟨hfr, hsub, hun⟩ := hI
      have h5 : y.2.1 5 = z.2.1 5 := hfr.2.1 5 (by decide)
      have h6 : y.2.1 6 = z.2.1 6 := hfr.2.1 6 (by decide)
      have h10 : y.2.1 10 = z.2.1 10 := hfr.2.1 10 (by decide)
      have l1' : y.2.2 1 = z.2.2 1 := hfr.2.2 1 (by decide)
      have l2' : y.2.2 2 = z.2.2 2 := hfr.2.2 2 (by decide)
      have hp : pm (k + 1) = ix k := rfl
      have hnext : ix k + mi = pm k := pm_step (by omega)
      rw [lp_O_flowWanted_27]
      simp (disch := omega) only [hp, pj_O_flowWanted_103, h5, h6, h10, hnext, forall_eq, l0, l1, l2, l3, l4, l5, l6, l15, l16, l24, l30, l99, l100, l200, l385, lm1, ix_ne, ne_ix, ix_nat, vp_ix, ix_inj, ix_le, ix_lt, ix_add, ix_mul, ix_sub, nar0', nar1', or00, or01, or10, or11, rI, rIA, rIL, rA, rAI, rAL, rL, rLI, rLA, ru, ruL, reduceIte, Nat.reduceEqDiff, true_or, or_true, true_and, and_true, false_or, or_false, not_true_eq_false, not_false_eq_true, false_implies, true_implies, implies_true, i10, i01]
      refine ⟨fun h => absurd h (by omega), fun _ => ⟨by omega, fun h0 => ?_, fun h0 => ⟨by omega, by omega, ?_⟩⟩⟩
      · refine ih ch x1 y (by omega) ⟨hfr, hsub, hun⟩ hx (FJ_mono hJ fun _ hq a ha han hra => ?_) hR
        rcases Nat.lt_or_ge k a with e | e
        · exact hq a e han hra
        · have : a = k := by omega
          subst this; exact absurd hra ((isb_z (hr a (by omega))).1 h0)
      · have hrk : Rc k := Classical.byContradiction fun hh => h0 ((isb_z (hr k (by omega))).2 hh)
        refine s_O_wantedByAll hn (hf k (by omega)).1 (hf k (by omega)).2 ?_
        have hwb : (if z.2.1 5 k = mi ∨ z.2.1 6 k = mi then 0 else y.2.2 6 (z.2.1 5 k).toNatClampNeg &&& y.2.2 6 (z.2.1 6 k).toNatClampNeg) = WB (y.2.2 6) k := rfl
        rw [hwb]
        simp (disch := omega) only [l1', l2', forall_eq, l0, l1, l2, l3, l4, l5, l6, l15, l16, l24, l30, l99, l100, l200, l385, lm1, ix_ne, ne_ix, ix_nat, vp_ix, ix_inj, ix_le, ix_lt, ix_add, ix_mul, ix_sub, nar0', nar1', or00, or01, or10, or11, rI, rIA, rIL, rA, rAI, rAL, rL, rLI, rLA, ru, ruL, reduceIte, Nat.reduceEqDiff, true_or, or_true, true_and, and_true, false_or, or_false, not_true_eq_false, not_false_eq_true, false_implies, true_implies, implies_true, i10, i01]
        refine ⟨by omega, by omega, by omega, by omega, s_O_narrow_22 (by omega) (fun w hw => ?_)⟩
        have hal : ∀ e X, e < 24 → PF e X → X k → hb (AL (y.2.2 6) k) e = true := by
          intro e X he hP hX
          show hb (z.2.2 2 k ||| (WB (y.2.2 6) k &&& (z.2.2 1 k ^^^ (-1)))) e = true
          rw [hb_or, hb_andn, Bool.or_eq_true, Bool.and_eq_true]
          rcases (hP k hX).2.2 (by omega) hrk with h | ⟨⟨h1, h2⟩, h3⟩
          · exact Or.inl h
          · refine Or.inr ⟨(hWB _ k e (by omega)).2 ⟨h1, fun c hc hE => hJ.2.1 e X c he hP (by omega) (h2 c hc hE)⟩, ?_⟩
            rw [Bool.not_eq_true']; exact Bool.eq_false_iff.2 h3
        have hw : isb w (¬ y.2.2 6 k &&& AL (y.2.2 6) k = y.2.2 6 k) := hw
        obtain ⟨ch', hx', hcc, hJ'⟩ := FJ_step hJ (by omega) hal hw hx
        have h4eq : ¬ ch' → vp_updL (y.2.2 6) k (y.2.2 6 k &&& AL (y.2.2 6) k) = y.2.2 6 := fun hh => updL_self ((hJ'.2.2.2.1 hh).2.2)
        refine ih ch' _ (zL (zL y 7 (vp_updL (y.2.2 7) k (WB (y.2.2 6) k))) 6 (vp_updL (y.2.2 6) k (y.2.2 6 k &&& AL (y.2.2 6) k))) (by omega) ⟨fr_L (fr_L hfr (by decide) _) (by decide) _, fun b e hb1 => ?_, fun a ha hh => ?_⟩ hx' ?_ hR
        · show hb (vp_updL (y.2.2 6) k (y.2.2 6 k &&& AL (y.2.2 6) k) b) e = true → _
          rw [ruL]; split
          · next e0 => intro hh; rw [hb_and, Bool.and_eq_true] at hh; rw [e0]; exact hsub k e (by omega) hh.1
          · exact hsub b e hb1
        · show vp_updL (y.2.2 7) k (WB (y.2.2 6) k) a = _
          rw [ruL, if_neg (fun e : a = k => hh (by rw [e]; exact hrk))]; exact hun a ha hh
        · show FJ PF v0 _ ch' (vp_updL (y.2.2 6) k (y.2.2 6 k &&& AL (y.2.2 6) k))
          refine FJ_mono hJ' fun hh hq a ha han hra => ?_
          show vp_updL (y.2.2 7) k (WB (y.2.2 6) k) a = WB (vp_updL (y.2.2 6) k (y.2.2 6 k &&& AL (y.2.2 6) k)) a ∧ vp_updL (y.2.2 6) k (y.2.2 6 k &&& AL (y.2.2 6) k) a &&& AL (vp_updL (y.2.2 6) k (y.2.2 6 k &&& AL (y.2.2 6) k)) a = vp_updL (y.2.2 6) k (y.2.2 6 k &&& AL (y.2.2 6) k) a
          rw [h4eq hh]
          rcases Nat.lt_or_ge k a with e | e
          · rw [ruL, if_neg (by omega)]; exact hq.1 a e han hra
          · have : a = k := by omega
            subst this
            rw [ruL, if_pos rfl]; exact ⟨rfl, hq.2⟩
  have fin : ∀ (y : Sta), I y → FJ PF (y.2.2 6) True False (y.2.2 6) → Q 0 y → K y := by
    intro y hI hJ hq
    refine hK y hI.1 (fun e X b he hP hX => hJ.2.1 e X b he hP (hP b hX).1 hX) hI.2.1 (fun a e ha hra => ?_) (fun a e ha hra hh => ?_) hI.2.2
    · rw [(hq a (by omega) ha hra).1]; exact hWB _ a e ha
    · have := and_sub (hq a (by omega) ha hra).2 e hh
      rw [(hq a (by omega) ha hra).1]
      have h2 : hb (z.2.2 2 a ||| (WB (y.2.2 6) a &&& (z.2.2 1 a ^^^ (-1)))) e = true := this
      rw [hb_or, hb_andn, Bool.or_eq_true, Bool.and_eq_true, Bool.not_eq_true'] at h2
      rcases h2 with h2 | h2
      · exact Or.inl h2
      · exact Or.inr ⟨h2.1, Bool.eq_false_iff.1 h2.2⟩
  have outer : ∀ (k i : Nat) (x1 : Int32) (ch : Prop) (y : Sta), i + k = 385 → I y → isb x1 ch → FJ PF (y.2.2 6) True False (y.2.2 6) → (¬ ch → Q 0 y) → (ch → mu (y.2.2 6) + i ≤ 384) → lp_O_flowWanted_4 K (k + 1) x1 (ix i) y := by
    intro k
    induction k with
    | zero =>
      intro i x1 ch y hik hI hx hJ hq hm
      rw [lp_O_flowWanted_4]
      simp (disch := omega) only [pj_O_flowWanted_115, forall_eq, l0, l1, l2, l3, l4, l5, l6, l15, l16, l24, l30, l99, l100, l200, l385, lm1, ix_ne, ne_ix, ix_nat, vp_ix, ix_inj, ix_le, ix_lt, ix_add, ix_mul, ix_sub, nar0', nar1', or00, or01, or10, or11, rI, rIA, rIL, rA, rAI, rAL, rL, rLI, rLA, ru, ruL, reduceIte, Nat.reduceEqDiff, true_or, or_true, true_and, and_true, false_or, or_false, not_true_eq_false, not_false_eq_true, false_implies, true_implies, implies_true, i10, i01]
      refine ⟨fun h0 => fin y hI hJ (hq ((isb_z hx).1 h0)), fun h0 => ⟨fun _ => ?_, fun h => absurd (by omega) h⟩⟩
      have hc : ch := Classical.byContradiction fun h => h0 ((isb_z hx).2 h)
      have := hm hc; omega
    | succ k ih =>
      intro i x1 ch y hik hI hx hJ hq hm
      have hN' : y.1 2 = ix n := (hI.1.1 2 (by decide)).trans hN
      rw [lp_O_flowWanted_4]
      simp (disch := omega) only [pj_O_flowWanted_115, hN', forall_eq, l0, l1, l2, l3, l4, l5, l6, l15, l16, l24, l30, l99, l100, l200, l385, lm1, ix_ne, ne_ix, ix_nat, vp_ix, ix_inj, ix_le, ix_lt, ix_add, ix_mul, ix_sub, nar0', nar1', or00, or01, or10, or11, rI, rIA, rIL, rA, rAI, rAL, rL, rLI, rLA, ru, ruL, reduceIte, Nat.reduceEqDiff, true_or, or_true, true_and, and_true, false_or, or_false, not_true_eq_false, not_false_eq_true, false_implies, true_implies, implies_true, i10, i01]
      refine ⟨fun h0 => fin y hI hJ (hq ((isb_z hx).1 h0)), fun h0 => ⟨fun h => absurd h (by omega), fun _ => ⟨n + 1, ?_⟩⟩⟩
      have hc : ch := Classical.byContradiction fun h => h0 ((isb_z hx).2 h)
      have hp : ix (n - 1) = pm n := by rw [pm, if_neg (by omega)]
      rw [hp]
      refine inner (y.2.2 6) _ _ n False (ix 0) y (by omega) hI (Or.inr ⟨rfl, fun h => h⟩) (FJ_mono hJ fun _ _ a ha han => absurd han (by omega)) (fun ch1 x1 y1 hI1 hx1 hJ1 => ?_)
      rw [ix_add]
      refine ih (i + 1) x1 ch1 y1 (by omega) hI1 hx1 (FJ_start hJ1) (fun hh => (hJ1.2.2.2.1 hh).2) (fun h => ?_)
      have := FJ_mu hJ1 h; have := hm hc; omega
  simp (disch := omega) only [wp_O_flowWanted, forall_eq, l0, l1, l2, l3, l4, l5, l6, l15, l16, l24, l30, l99, l100, l200, l385, lm1, ix_ne, ne_ix, ix_nat, vp_ix, ix_inj, ix_le, ix_lt, ix_add, ix_mul, ix_sub, nar0', nar1', or00, or01, or10, or11, rI, rIA, rIL, rA, rAI, rAL, rL, rLI, rLA, ru, ruL, reduceIte, Nat.reduceEqDiff, true_or, or_true, true_and, and_true, false_or, or_false, not_true_eq_false, not_false_eq_true, false_implies, true_implies, implies_true, i10, i01]
  refine ⟨386, outer 385 0 (ix 1) True z (by omega) ⟨fr_refl z, fun _ _ _ h => h, fun _ _ _ => rfl⟩ (Or.inl ⟨rfl, trivial⟩) ⟨hst, fun e X b he hP hb1 hX => (hP b hX).2.1, fun _ _ _ h => h, fun _ => ⟨fun _ _ => rfl, trivial⟩, fun h => h.elim⟩ (fun h => absurd trivial h) (fun _ => Nat.le_trans (Nat.le_of_eq (Nat.add_zero _)) (mu_le _))⟩
def EAb (z : Sta) (a b e : Nat) : Prop := hb (z.2.2 6 b) e = true ∧ ¬ hb (z.2.2 5 a) e = true ∧ (hb (z.2.2 1 a) e = true ∨ ¬ hb (z.2.2 7 a) e = true)
def LOv (z : Sta) (a b : Nat) : Int64 := ((z.2.2 6 b &&& (z.2.2 5 a ^^^ (-1))) &&& (z.2.2 1 a ||| (z.2.2 7 a ^^^ (-1)))) ||| (z.2.2 8 a &&& (z.2.2 2 a ^^^ (-1)))
theorem hb_LOv (z : Sta) (a b e : Nat) : hb (LOv z a b) e = true ↔ EAb z a b e ∨ (hb (z.2.2 8 a) e = true ∧ ¬ hb (z.2.2 2 a) e = true) := by
  rcases Nat.lt_or_ge e 64 with he | he
  · simp only [LOv, EAb, hb_or, hb_and, hb_not, he, decide_true, Bool.true_and, Bool.or_eq_true, Bool.and_eq_true, Bool.not_eq_true', Bool.not_eq_true, and_assoc]
  · simp [LOv, EAb, hb_ge _ he]
theorem s_O_laterOn {z : Sta} {K : Int64 → Sta → Prop} {a b : Nat} (ha : a < 16) (hb1 : b < 16) (h : K (LOv z a b) z) : wp_O_laterOn (ix a) (ix b) z K := by
  simp (disch := omega) only [wp_O_laterOn, forall_eq, l0, l1, l2, l3, l4, l5, l6, l15, l16, l24, l30, l99, l100, l200, l385, lm1, ix_ne, ne_ix, ix_nat, vp_ix, ix_inj, ix_le, ix_lt, ix_add, ix_mul, ix_sub, nar0', nar1', or00, or01, or10, or11, rI, rIA, rIL, rA, rAI, rAL, rL, rLI, rLA, ru, ruL, reduceIte, Nat.reduceEqDiff, true_or, or_true, true_and, and_true, false_or, or_false, not_true_eq_false, not_false_eq_true, false_implies, true_implies, implies_true, i10, i01]
  exact ⟨by omega, by omega, by omega, by omega, by omega, by omega, h⟩
theorem s_O_laterOnm {z : Sta} {K : Int64 → Sta → Prop} {b : Nat} (hb1 : b < 16) (h : K (z.2.2 6 b) z) : wp_O_laterOn mi (ix b) z K := by
  simp (disch := omega) only [wp_O_laterOn, forall_eq, l0, l1, l2, l3, l4, l5, l6, l15, l16, l24, l30, l99, l100, l200, l385, lm1, ix_ne, ne_ix, ix_nat, vp_ix, ix_inj, ix_le, ix_lt, ix_add, ix_mul, ix_sub, nar0', nar1', or00, or01, or10, or11, rI, rIA, rIL, rA, rAI, rAL, rL, rLI, rLA, ru, ruL, reduceIte, Nat.reduceEqDiff, true_or, or_true, true_and, and_true, false_or, or_false, not_true_eq_false, not_false_eq_true, false_implies, true_implies, implies_true, i10, i01]
  exact ⟨by omega, h⟩
theorem s_O_narrowLatem {z : Sta} {K : Int32 → Sta → Prop} {x : Int32} (h : K (ix 0) z) : wp_O_narrowLate x mi z K := by
  simp (disch := omega) only [wp_O_narrowLate, pj_O_narrowLate_26, pj_O_narrowLate_27, forall_eq, l0, l1, l2, l3, l4, l5, l6, l15, l16, l24, l30, l99, l100, l200, l385, lm1, ix_ne, ne_ix, ix_nat, vp_ix, ix_inj, ix_le, ix_lt, ix_add, ix_mul, ix_sub, nar0', nar1', or00, or01, or10, or11, rI, rIA, rIL, rA, rAI, rAL, rL, rLI, rLA, ru, ruL, reduceIte, Nat.reduceEqDiff, true_or, or_true, true_and, and_true, false_or, or_false, not_true_eq_false, not_false_eq_true, false_implies, true_implies, implies_true, i10, i01]
  exact h
theorem s_O_narrowLate {z : Sta} {K : Int32 → Sta → Prop} {a c : Nat} (ha : a < 16) (hc : c < 16) (h : ∀ w, isb w (¬ z.2.2 8 c &&& LOv z a c = z.2.2 8 c) → K w (zL z 8 (vp_updL (z.2.2 8) c (z.2.2 8 c &&& LOv z a c)))) : wp_O_narrowLate (ix a) (ix c) z K := by
  simp (disch := omega) only [wp_O_narrowLate, pj_O_narrowLate_26, pj_O_narrowLate_27, forall_eq, l0, l1, l2, l3, l4, l5, l6, l15, l16, l24, l30, l99, l100, l200, l385, lm1, ix_ne, ne_ix, ix_nat, vp_ix, ix_inj, ix_le, ix_lt, ix_add, ix_mul, ix_sub, nar0', nar1', or00, or01, or10, or11, rI, rIA, rIL, rA, rAI, rAL, rL, rLI, rLA, ru, ruL, reduceIte, Nat.reduceEqDiff, true_or, or_true, true_and, and_true, false_or, or_false, not_true_eq_false, not_false_eq_true, false_implies, true_implies, implies_true, i10, i01]
  refine s_O_laterOn ha hc (s_O_narrow_24 hc fun w hw => ⟨fun h0 => ?_, fun h0 => ?_⟩)
  · rw [← h0]; exact h w hw
  · have := (isb_b hw).resolve_left h0
    rw [← this]; exact h w hw
def PFl (n : Nat) (E : Nat → Nat → Prop) (Rc : Nat → Prop) (st A W : Nat → Nat → Prop) (EA : Nat → Nat → Nat → Prop) (e : Nat) (X : Nat → Prop) : Prop := ∀ b, X b → b < 16 ∧ st b e ∧ (b = 0 → W b e) ∧ ∀ a, a < n → Rc a → E a b → (EA a b e ∨ (X a ∧ ¬ A a e))
theorem s_O_flowLate {n : Nat} {E : Nat → Nat → Prop} {Rc : Nat → Prop} {z : Sta} {K : Sta → Prop} (hn : n ≤ 16) (hn0 : 0 < n) (hN : z.1 2 = ix n)
    (hf : ∀ a, a < n → okS n (z.2.1 5 a) ∧ okS n (z.2.1 6 a)) (hfE : ∀ a c, a < n → c < n → (E a c ↔ z.2.1 5 a = ix c ∨ z.2.1 6 a = ix c))
    (hr : ∀ b, b < 16 → isb (z.2.1 10 b) (Rc b)) (hst : ∀ b e, b < 16 → hb (z.2.2 8 b) e = true → e < 24) (hst6 : ∀ b e, b < 16 → hb (z.2.2 6 b) e = true → e < 24)
    (hK : ∀ y, fr [] [] [8] z y →
      (∀ e X b, e < 24 → PFl n E Rc (fun b e => hb (z.2.2 8 b) e = true) (fun b e => hb (z.2.2 2 b) e = true) (fun b e => hb (z.2.2 6 b) e = true) (EAb z) e X → X b → hb (y.2.2 8 b) e = true) →
      (∀ b e, b < 16 → b ≠ 0 → hb (y.2.2 8 b) e = true → hb (z.2.2 8 b) e = true) → (∀ e, hb (y.2.2 8 0) e = true → hb (z.2.2 6 0) e = true) →
      (∀ a c e, a < n → Rc a → c < n → E a c → hb (y.2.2 8 c) e = true → EAb z a c e ∨ (hb (y.2.2 8 a) e = true ∧ ¬ hb (z.2.2 2 a) e = true)) → K y) : wp_O_flowLate z K := by
  let PF := PFl n E Rc (fun b e => hb (z.2.2 8 b) e = true) (fun b e => hb (z.2.2 2 b) e = true) (fun b e => hb (z.2.2 6 b) e = true) (EAb z)
  let Q : Nat → Sta → Prop := fun i y => ∀ a, a < i → Rc a → ∀ c, c < n → E a c → y.2.2 8 c &&& LOv y a c = y.2.2 8 c
  let I : Sta → Prop := fun y => fr [] [] [8] z y ∧ (∀ b e, b < 16 → b ≠ 0 → hb (y.2.2 8 b) e = true → hb (z.2.2 8 b) e = true) ∧ (∀ e, hb (y.2.2 8 0) e = true → hb (z.2.2 6 0) e = true)
  have hEA : ∀ y, fr [] [] [8] z y → ∀ a b e, EAb y a b e ↔ EAb z a b e := by
    intro y hfr a b e
    simp only [EAb, hfr.2.2 6 (by decide), hfr.2.2 5 (by decide), hfr.2.2 1 (by decide), hfr.2.2 7 (by decide)]
  have inner : ∀ (v0 : Nat → Int64) (R : Int32 → Int32 → Sta → Prop) (x2 : Int32) (k i : Nat) (ch : Prop) (x1 : Int32) (y : Sta), i + k = n → I y → isb x1 ch → FJ PF v0 (Q i y) ch (y.2.2 8) →
      (∀ (ch : Prop) (x1 : Int32) (y : Sta), I y → isb x1 ch → FJ PF v0 (Q n y) ch (y.2.2 8) → R x1 (x2 + ix 1) y) →
      lp_O_flowLate_31 K R (k + 1) x1 x2 (ix i) y := by
    intro v0 R x2 k
    induction k with
    | zero =>
      intro i ch x1 y hik hI hx hJ hR
      have hN' : y.1 2 = ix n := (hI.1.1 2 (by decide)).trans hN
      rw [lp_O_flowLate_31]
      simp (disch := omega) only [hN', forall_eq, l0, l1, l2, l3, l4, l5, l6, l15, l16, l24, l30, l99, l100, l200, l385, lm1, ix_ne, ne_ix, ix_nat, vp_ix, ix_inj, ix_le, ix_lt, ix_add, ix_mul, ix_sub, nar0', nar1', or00, or01, or10, or11, rI, rIA, rIL, rA, rAI, rAL, rL, rLI, rLA, ru, ruL, reduceIte, Nat.reduceEqDiff, true_or, or_true, true_and, and_true, false_or, or_false, not_true_eq_false, not_false_eq_true, false_implies, true_implies, implies_true, i10, i01]
      have : i = n := by omega
      subst this
      exact ⟨fun _ => hR ch x1 y hI hx hJ, fun h => absurd (by omega) h⟩
    | succ k ih =>
      intro i ch x1 y hik hI hx hJ hR
      have hfr := hI.1
      have hN' : y.1 2 = ix n := (hfr.1 2 (by decide)).trans hN
      have h5 : y.2.1 5 = z.2.1 5 := hfr.2.1 5 (by decide)
      have h10 : y.2.1 10 = z.2.1 10 := hfr.2.1 10 (by decide)
      rw [lp_O_flowLate_31]
      simp (disch := omega) only [pj_O_flowLate_85, hN', h5, h10, forall_eq, l0, l1, l2, l3, l4, l5, l6, l15, l16, l24, l30, l99, l100, l200, l385, lm1, ix_ne, ne_ix, ix_nat, vp_ix, ix_inj, ix_le, ix_lt, ix_add, ix_mul, ix_sub, nar0', nar1', or00, or01, or10, or11, rI, rIA, rIL, rA, rAI, rAL, rL, rLI, rLA, ru, ruL, reduceIte, Nat.reduceEqDiff, true_or, or_true, true_and, and_true, false_or, or_false, not_true_eq_false, not_false_eq_true, false_implies, true_implies, implies_true, i10, i01]
      refine ⟨fun h => absurd h (by omega), fun _ => ⟨by omega, fun h0 => ?_, fun h0 => ⟨by omega, ?_⟩⟩⟩
      · refine ih (i + 1) ch x1 y (by omega) hI hx (FJ_mono hJ fun _ hq a ha hra => ?_) hR
        rcases Nat.lt_or_ge a i with e | e
        · exact hq a e hra
        · have : a = i := by omega
          subst this; exact absurd hra ((isb_z (hr a (by omega))).1 h0)
      · have hri : Rc i := Classical.byContradiction fun hh => h0 ((isb_z (hr i (by omega))).2 hh)
        have step : ∀ (s : Int32) (ch : Prop) (x1 : Int32) (y1 : Sta) (D : Nat → Prop) (K2 : Int32 → Sta → Prop), okS n s → (∀ c, c < n → s = ix c → E i c) → I y1 → isb x1 ch →
            FJ PF v0 (Q i y1 ∧ ∀ c, c < n → D c → y1.2.2 8 c &&& LOv y1 i c = y1.2.2 8 c) ch (y1.2.2 8) →
            (∀ (ch : Prop) (w : Int32) (y2 : Sta), I y2 → isb (x1 ||| w) ch →
              FJ PF v0 (Q i y2 ∧ ∀ c, c < n → (D c ∨ s = ix c) → y2.2.2 8 c &&& LOv y2 i c = y2.2.2 8 c) ch (y2.2.2 8) → K2 w y2) → wp_O_narrowLate (ix i) s y1 K2 := by
          intro s ch x1 y1 D K2 hs hsE hI1 hx1 hJ1 hK2
          rcases hs with rfl | ⟨c, hc, rfl⟩
          · refine s_O_narrowLatem (hK2 ch _ y1 hI1 ?_ (FJ_mono hJ1 fun _ hq => ⟨hq.1, fun c hc hD => ?_⟩))
            · rcases hx1 with ⟨e, hc⟩ | ⟨e, hc⟩
              · rw [e, or10]; exact Or.inl ⟨rfl, hc⟩
              · rw [e, or00]; exact Or.inr ⟨rfl, hc⟩
            · rcases hD with hD | hD
              · exact hq.2 c hc hD
              · exact absurd hD (ne_ix (by omega))
          · have hal : ∀ e X, e < 24 → PF e X → X c → hb (LOv y1 i c) e = true := by
              intro e X he hP hX
              rw [hb_LOv, hEA y1 hI1.1, hI1.1.2.2 2 (by decide)]
              rcases (hP c hX).2.2.2 i (by omega) hri (hsE c hc rfl) with h | ⟨h1, h2⟩
              · exact Or.inl h
              · exact Or.inr ⟨hJ1.2.1 e X i he hP (by omega) h1, h2⟩
            refine s_O_narrowLate (by omega) (by omega) (fun w hw => ?_)
            obtain ⟨ch', hx', hcc, hJ'⟩ := FJ_step hJ1 (by omega) hal hw hx1
            have hyeq : ¬ ch' → zL y1 8 (vp_updL (y1.2.2 8) c (y1.2.2 8 c &&& LOv y1 i c)) = y1 := by
              intro hh
              rw [updL_self ((hJ'.2.2.2.1 hh).2.2)]
              show (y1.1, y1.2.1, fun j => if j = 8 then y1.2.2 8 else y1.2.2 j) = y1
              have : (fun j => if j = 8 then y1.2.2 8 else y1.2.2 j) = y1.2.2 := by
                funext j; split
                · next e => rw [e]
                · rfl
              rw [this]
            refine hK2 ch' w _ ⟨fr_L hI1.1 (by decide) _, fun b e hb1 hb0 => ?_, fun e => ?_⟩ hx' ?_
            · show hb (vp_updL (y1.2.2 8) c (y1.2.2 8 c &&& LOv y1 i c) b) e = true → _
              rw [ruL]; split
              · next e0 => intro hh; rw [hb_and, Bool.and_eq_true] at hh; rw [e0]; exact hI1.2.1 c e (by omega) (by omega) hh.1
              · exact hI1.2.1 b e hb1 hb0
            · show hb (vp_updL (y1.2.2 8) c (y1.2.2 8 c &&& LOv y1 i c) 0) e = true → _
              rw [ruL]; split
              · next e0 => intro hh; rw [hb_and, Bool.and_eq_true] at hh; rw [← e0] at hh; exact hI1.2.2 e hh.1
              · exact hI1.2.2 e
            · show FJ PF v0 _ ch' (vp_updL (y1.2.2 8) c (y1.2.2 8 c &&& LOv y1 i c))
              refine FJ_mono hJ' fun hh hq => ?_
              rw [hyeq hh]
              refine ⟨hq.1.1, fun c2 hc2 hD => ?_⟩
              rcases hD with hD | hD
              · exact hq.1.2 c2 hc2 hD
              · rw [ix_inj (by omega) (by omega)] at hD; subst hD; exact hq.2
        refine step _ ch x1 _ (fun _ => False) _ (hf i (by omega)).1 (fun c hc e => (hfE i c (by omega) hc).2 (Or.inl e)) hI hx (FJ_mono hJ fun _ hq => ⟨hq, fun _ _ h => h.elim⟩) (fun ch1 w1 y1 hI2 hx1 hJ2 => ?_)
        have h6' : y1.2.1 6 = z.2.1 6 := hI2.1.2.1 6 (by decide)
        rw [h6']
        refine ⟨by omega, ?_⟩
        refine step _ ch1 _ y1 _ _ (hf i (by omega)).2 (fun c hc e => (hfE i c (by omega) hc).2 (Or.inr e)) hI2 hx1 hJ2 (fun ch2 w2 y2 hI3 hx2 hJ3 => ?_)
        refine ih (i + 1) ch2 _ y2 (by omega) hI3 hx2 (FJ_mono hJ3 fun hh hq a ha hra => ?_) hR
        rcases Nat.lt_or_ge a i with e | e
        · exact hq.1 a e hra
        · have e2 : a = i := by omega
          subst e2
          refine fun c hc he => hq.2 c hc ?_
          rcases (hfE a c (by omega) hc).1 he with h | h
          · exact Or.inl (Or.inr h)
          · exact Or.inr h
  have fin : ∀ (y : Sta), I y → FJ PF (y.2.2 8) True False (y.2.2 8) → Q n y → K y := by
    intro y hI hJ hq
    refine hK y hI.1 (fun e X b he hP hX => hJ.2.1 e X b he hP (hP b hX).1 hX) hI.2.1 hI.2.2 (fun a c e ha hra hc he hh => ?_)
    have := and_sub (hq a ha hra c hc he) e hh
    rw [hb_LOv, hEA y hI.1, hI.1.2.2 2 (by decide)] at this
    exact this
  have outer : ∀ (k i : Nat) (x1 : Int32) (ch : Prop) (y : Sta), i + k = 385 → I y → isb x1 ch → FJ PF (y.2.2 8) True False (y.2.2 8) → (¬ ch → Q n y) → (ch → mu (y.2.2 8) + i ≤ 384) → lp_O_flowLate_16 K (k + 1) x1 (ix i) y := by
    intro k
    induction k with
    | zero =>
      intro i x1 ch y hik hI hx hJ hq hm
      rw [lp_O_flowLate_16]
      simp (disch := omega) only [pj_O_flowLate_97, forall_eq, l0, l1, l2, l3, l4, l5, l6, l15, l16, l24, l30, l99, l100, l200, l385, lm1, ix_ne, ne_ix, ix_nat, vp_ix, ix_inj, ix_le, ix_lt, ix_add, ix_mul, ix_sub, nar0', nar1', or00, or01, or10, or11, rI, rIA, rIL, rA, rAI, rAL, rL, rLI, rLA, ru, ruL, reduceIte, Nat.reduceEqDiff, true_or, or_true, true_and, and_true, false_or, or_false, not_true_eq_false, not_false_eq_true, false_implies, true_implies, implies_true, i10, i01]
      refine ⟨fun h0 => fin y hI hJ (hq ((isb_z hx).1 h0)), fun h0 => ⟨fun _ => ?_, fun h => absurd (by omega) h⟩⟩
      have hc : ch := Classical.byContradiction fun h => h0 ((isb_z hx).2 h)
      have := hm hc; omega
    | succ k ih =>
      intro i x1 ch y hik hI hx hJ hq hm
      rw [lp_O_flowLate_16]
      simp (disch := omega) only [pj_O_flowLate_97, forall_eq, l0, l1, l2, l3, l4, l5, l6, l15, l16, l24, l30, l99, l100, l200, l385, lm1, ix_ne, ne_ix, ix_nat, vp_ix, ix_inj, ix_le, ix_lt, ix_add, ix_mul, ix_sub, nar0', nar1', or00, or01, or10, or11, rI, rIA, rIL, rA, rAI, rAL, rL, rLI, rLA, ru, ruL, reduceIte, Nat.reduceEqDiff, true_or, or_true, true_and, and_true, false_or, or_false, not_true_eq_false, not_false_eq_true, false_implies, true_implies, implies_true, i10, i01]
      refine ⟨fun h0 => fin y hI hJ (hq ((isb_z hx).1 h0)), fun h0 => ⟨fun h => absurd h (by omega), fun _ => ⟨n + 1, ?_⟩⟩⟩
      have hc : ch := Classical.byContradiction fun h => h0 ((isb_z hx).2 h)
      refine inner (y.2.2 8) _ _ n 0 False (ix 0) y (by omega) hI (Or.inr ⟨rfl, fun h => h⟩) (FJ_mono hJ fun _ _ a ha => absurd ha (by omega)) (fun ch1 x1 y1 hI1 hx1 hJ1 => ?_)
      rw [ix_add]
      refine ih (i + 1) x1 ch1 y1 (by omega) hI1 hx1 (FJ_start hJ1) (fun hh => (hJ1.2.2.2.1 hh).2) (fun h => ?_)
      have := FJ_mu hJ1 h; have := hm hc; omega
  have hpre : ∀ b, vp_updL (z.2.2 8) 0 (z.2.2 6 0) b = if b = 0 then z.2.2 6 0 else z.2.2 8 b := fun b => rfl
  simp (disch := omega) only [wp_O_flowLate, forall_eq, l0, l1, l2, l3, l4, l5, l6, l15, l16, l24, l30, l99, l100, l200, l385, lm1, ix_ne, ne_ix, ix_nat, vp_ix, ix_inj, ix_le, ix_lt, ix_add, ix_mul, ix_sub, nar0', nar1', or00, or01, or10, or11, rI, rIA, rIL, rA, rAI, rAL, rL, rLI, rLA, ru, ruL, reduceIte, Nat.reduceEqDiff, true_or, or_true, true_and, and_true, false_or, or_false, not_true_eq_false, not_false_eq_true, false_implies, true_implies, implies_true, i10, i01]
  refine s_O_laterOnm (by omega) ⟨by omega, 386, outer 385 0 (ix 1) True (zL z 8 (vp_updL (z.2.2 8) 0 (z.2.2 6 0))) (by omega) ⟨fr_L (fr_refl z) (by decide) _, fun b e hb1 hb0 => ?_, fun e => ?_⟩ (Or.inl ⟨rfl, trivial⟩) ⟨fun b e hb1 => ?_, fun e X b he hP hb1 hX => ?_, fun _ _ _ h => h, fun _ => ⟨fun _ _ => rfl, trivial⟩, fun h => h.elim⟩ (fun h => absurd trivial h) (fun _ => Nat.le_trans (Nat.le_of_eq (Nat.add_zero _)) (mu_le _))⟩
  · show hb (vp_updL (z.2.2 8) 0 (z.2.2 6 0) b) e = true → _
    rw [hpre, if_neg hb0]; exact id
  · show hb (vp_updL (z.2.2 8) 0 (z.2.2 6 0) 0) e = true → _
    rw [hpre, if_pos rfl]; exact id
  · show hb (vp_updL (z.2.2 8) 0 (z.2.2 6 0) b) e = true → _
    rw [hpre]; split
    · exact hst6 0 e (by omega)
    · exact hst b e hb1
  · show hb (vp_updL (z.2.2 8) 0 (z.2.2 6 0) b) e = true
    rw [hpre]; split
    · next e0 => have := (hP b hX).2.2.1 e0; rw [e0] at this; exact this
    · exact (hP b hX).2.1
end
section
def HM (n : Nat) (E : Nat → Nat → Prop) (Rc : Nat → Prop) (z : Sta) : Prop := n ≤ 16 ∧ 0 < n ∧ z.1 8 = ix n ∧ (∀ a, a < n → okS n (nx (z.2.1 17) a 0) ∧ okS n (nx (z.2.1 17) a 1)) ∧ (∀ a c, a < n → c < n → (E a c ↔ nx (z.2.1 17) a 0 = ix c ∨ nx (z.2.1 17) a 1 = ix c)) ∧ (∀ b, b < 16 → isb (z.2.1 21 b) (Rc b))
theorem HM_fr {n : Nat} {E : Nat → Nat → Prop} {Rc : Nat → Prop} {z y : Sta} {I A L : List Nat} (h : HM n E Rc z) (hf : fr I A L z y) (h8 : 8 ∉ I) (h17 : 17 ∉ A) (h21 : 21 ∉ A) : HM n E Rc y := by
  unfold HM
  rw [hf.1 8 h8, hf.2.1 17 h17, hf.2.1 21 h21]; exact h
theorem isb_n {v : Int32} {p : Prop} (h : isb v p) (hv : ¬ v = ix 0) : p := Classical.byContradiction fun hh => hv ((isb_z h).2 hh)
theorem s_M_edge' {n : Nat} {E : Nat → Nat → Prop} {Rc : Nat → Prop} {z : Sta} {K : Int32 → Sta → Prop} {a b : Nat} (H : HM n E Rc z) (ha : a < n) (hb1 : b < n) (h : ∀ v, isb v (Rc a ∧ E a b) → K v z) : wp_M_edge (ix a) (ix b) z K := by
  obtain ⟨hn, _, _, _, hE, hr⟩ := H
  refine s_M_edge (by omega) (fun v hv => h v (isb_c hv ?_))
  rw [hE a b ha hb1, isb_z (hr a (by omega))]
  exact ⟨fun h => ⟨Classical.not_not.1 h.1, h.2⟩, fun h => ⟨fun hh => hh h.1, h.2⟩⟩
theorem s_M_thereBefore {n : Nat} {E : Nat → Nat → Prop} {Rc Bh : Nat → Prop} {z : Sta} {K : Int32 → Sta → Prop} {b : Nat} (H : HM n E Rc z) (hb1 : b < n) (hB : ∀ a, a < n → isb (z.2.1 28 a) (Bh a)) (h : ∀ v, isb v (0 < b ∧ ∀ a, a < n → Rc a → E a b → Bh a) → K v z) : wp_M_thereBefore (ix b) z K := by
  have hn := H.1
  have hN := H.2.2.1
  have loop : ∀ (k i : Nat) (x2 : Int32), i + k = n → isb x2 (0 < b ∧ ∀ a, a < i → Rc a → E a b → Bh a) → lp_M_thereBefore_12 K (k + 1) (ix b) x2 (ix i) z := by
    intro k
    induction k with
    | zero =>
      intro i x2 hik hx
      rw [lp_M_thereBefore_12]
      simp (disch := omega) only [hN, forall_eq, l0, l1, l2, l3, l4, l5, l6, l15, l16, l24, l30, l99, l100, l200, l385, lm1, ix_ne, ne_ix, ix_nat, vp_ix, ix_inj, ix_le, ix_lt, ix_add, ix_mul, ix_sub, nar0', nar1', or00, or01, or10, or11, rI, rIA, rIL, rA, rAI, rAL, rL, rLI, rLA, ru, ruL, reduceIte, Nat.reduceEqDiff, true_or, or_true, true_and, and_true, false_or, or_false, not_true_eq_false, not_false_eq_true, false_implies, true_implies, implies_true, i10, i01]
      have : i = n := by omega
      subst this
      exact ⟨fun _ => ⟨isb_b hx, h x2 hx⟩, fun h => absurd (by omega) h⟩
    | succ k ih =>
      intro i x2 hik hx
      rw [lp_M_thereBefore_12]
      simp (disch := omega) only [hN, pj_M_thereBefore_46, pj_M_thereBefore_47, pj_M_thereBefore_42, forall_eq, l0, l1, l2, l3, l4, l5, l6, l15, l16, l24, l30, l99, l100, l200, l385, lm1, ix_ne, ne_ix, ix_nat, vp_ix, ix_inj, ix_le, ix_lt, ix_add, ix_mul, ix_sub, nar0', nar1', or00, or01, or10, or11, rI, rIA, rIL, rA, rAI, rAL, rL, rLI, rLA, ru, ruL, reduceIte, Nat.reduceEqDiff, true_or, or_true, true_and, and_true, false_or, or_false, not_true_eq_false, not_false_eq_true, false_implies, true_implies, implies_true, i10, i01]
      refine ⟨fun h => absurd h (by omega), fun _ => ⟨fun h0 => ih (i + 1) _ (by omega) (Or.inr ⟨rfl, fun hh => (isb_z hx).1 h0 ⟨hh.1, fun a ha => hh.2 a (by omega)⟩⟩), fun h0 => ?_⟩⟩
      have hx := isb_n hx h0
      refine s_M_edge' H (by omega) hb1 (fun v hv => ⟨fun h1 => ih (i + 1) _ (by omega) (Or.inl ⟨rfl, hx.1, fun a ha hra he => ?_⟩), fun h1 => ⟨by omega, fun h2 => ih (i + 1) _ (by omega) (Or.inr ⟨rfl, fun hh => ?_⟩), fun h2 => ih (i + 1) _ (by omega) (Or.inl ⟨rfl, hx.1, fun a ha hra he => ?_⟩)⟩⟩)
      · rcases Nat.lt_or_ge a i with e | e
        · exact hx.2 a e hra he
        · have : a = i := by omega
          subst this; exact absurd ⟨hra, he⟩ ((isb_z hv).1 h1)
      · have := isb_n hv h1
        exact (isb_z (hB i (by omega))).1 h2 (hh.2 i (by omega) this.1 this.2)
      · rcases Nat.lt_or_ge a i with e | e
        · exact hx.2 a e hra he
        · have : a = i := by omega
          subst this; exact isb_n (hB a (by omega)) h2
  simp (disch := omega) only [wp_M_thereBefore, pj_M_thereBefore_9, forall_eq, l0, l1, l2, l3, l4, l5, l6, l15, l16, l24, l30, l99, l100, l200, l385, lm1, ix_ne, ne_ix, ix_nat, vp_ix, ix_inj, ix_le, ix_lt, ix_add, ix_mul, ix_sub, nar0', nar1', or00, or01, or10, or11, rI, rIA, rIL, rA, rAI, rAL, rL, rLI, rLA, ru, ruL, reduceIte, Nat.reduceEqDiff, true_or, or_true, true_and, and_true, false_or, or_false, not_true_eq_false, not_false_eq_true, false_implies, true_implies, implies_true, i10, i01]
  exact ⟨fun h0 => ⟨n + 1, loop n 0 _ (by omega) (Or.inr ⟨rfl, fun hh => absurd hh.1 (by omega)⟩)⟩, fun h0 => ⟨n + 1, loop n 0 _ (by omega) (Or.inl ⟨rfl, by omega, fun a ha => absurd ha (by omega)⟩)⟩⟩
theorem s_M_wantedBehind {n : Nat} {E : Nat → Nat → Prop} {Rc Wt : Nat → Prop} {z : Sta} {K : Int32 → Sta → Prop} {b : Nat} (H : HM n E Rc z) (hb1 : b < n) (hW : ∀ a, a < n → isb (z.2.1 29 a) (Wt a)) (h : ∀ v, isb v ((∃ c, c < n ∧ E b c) ∧ ∀ c, c < n → E b c → Wt c) → K v z) : wp_M_wantedBehind (ix b) z K := by
  obtain ⟨hn, hn0, hN, hok, hE, hr⟩ := H
  have lt0 : mi < ix 0 := by decide
  have okk : ∀ k, k < 2 → okS n (nx (z.2.1 17) b k) := by
    intro k hk
    rcases Nat.lt_or_ge k 1 with e | e
    · have : k = 0 := by omega
      subst this; exact (hok b hb1).1
    · have : k = 1 := by omega
      subst this; exact (hok b hb1).2
  have loop : ∀ (k i : Nat) (x2 x3 : Int32), i + k = 2 → isb x2 (∃ t, t < i ∧ ∃ c, c < n ∧ nx (z.2.1 17) b t = ix c) → isb x3 (∀ t, t < i → ∀ c, c < n → nx (z.2.1 17) b t = ix c → Wt c) → lp_M_wantedBehind_7 K (k + 1) (ix b) x2 x3 (ix i) z := by
    intro k
    induction k with
    | zero =>
      intro i x2 x3 hik h2 h3
      have : i = 2 := by omega
      subst this
      have hp : ((∃ t, t < 2 ∧ ∃ c, c < n ∧ nx (z.2.1 17) b t = ix c) ∧ (∀ t, t < 2 → ∀ c, c < n → nx (z.2.1 17) b t = ix c → Wt c)) ↔ ((∃ c, c < n ∧ E b c) ∧ ∀ c, c < n → E b c → Wt c) := by
        constructor
        · rintro ⟨⟨t, ht, c, hc, hx⟩, h4⟩
          refine ⟨⟨c, hc, (hE b c hb1 hc).2 ?_⟩, fun c hc he => ?_⟩
          · rcases Nat.lt_or_ge t 1 with e | e
            · have : t = 0 := by omega
              subst this; exact Or.inl hx
            · have : t = 1 := by omega
              subst this; exact Or.inr hx
          · rcases (hE b c hb1 hc).1 he with e | e
            · exact h4 0 (by omega) c hc e
            · exact h4 1 (by omega) c hc e
        · rintro ⟨⟨c, hc, he⟩, h4⟩
          refine ⟨?_, fun t ht c hc hx => h4 c hc ((hE b c hb1 hc).2 ?_)⟩
          · rcases (hE b c hb1 hc).1 he with e | e
            · exact ⟨0, by omega, c, hc, e⟩
            · exact ⟨1, by omega, c, hc, e⟩
          · rcases Nat.lt_or_ge t 1 with e | e
            · have : t = 0 := by omega
              subst this; exact Or.inl hx
            · have : t = 1 := by omega
              subst this; exact Or.inr hx
      rw [lp_M_wantedBehind_7]
      simp (disch := omega) only [pj_M_wantedBehind_80, pj_M_wantedBehind_81, forall_eq, l0, l1, l2, l3, l4, l5, l6, l15, l16, l24, l30, l99, l100, l200, l385, lm1, ix_ne, ne_ix, ix_nat, vp_ix, ix_inj, ix_le, ix_lt, ix_add, ix_mul, ix_sub, nar0', nar1', or00, or01, or10, or11, rI, rIA, rIL, rA, rAI, rAL, rL, rLI, rLA, ru, ruL, reduceIte, Nat.reduceEqDiff, true_or, or_true, true_and, and_true, false_or, or_false, not_true_eq_false, not_false_eq_true, false_implies, true_implies, implies_true, i10, i01]
      refine ⟨fun _ => ⟨fun h0 => h _ (Or.inr ⟨rfl, fun hh => (isb_z h2).1 h0 (hp.2 hh).1⟩), fun h0 => ⟨fun h1 => h _ (Or.inr ⟨rfl, fun hh => (isb_z h3).1 h1 (hp.2 hh).2⟩), fun h1 => h _ (Or.inl ⟨rfl, hp.1 ⟨isb_n h2 h0, isb_n h3 h1⟩⟩)⟩⟩, fun h => absurd (by omega) h⟩
    | succ k ih =>
      intro i x2 x3 hik h2 h3
      rw [lp_M_wantedBehind_7]
      simp (disch := omega) only [pj_M_wantedBehind_31, forall_eq, l0, l1, l2, l3, l4, l5, l6, l15, l16, l24, l30, l99, l100, l200, l385, lm1, ix_ne, ne_ix, ix_nat, vp_ix, ix_inj, ix_le, ix_lt, ix_add, ix_mul, ix_sub, nar0', nar1', or00, or01, or10, or11, rI, rIA, rIL, rA, rAI, rAL, rL, rLI, rLA, ru, ruL, reduceIte, Nat.reduceEqDiff, true_or, or_true, true_and, and_true, false_or, or_false, not_true_eq_false, not_false_eq_true, false_implies, true_implies, implies_true, i10, i01]
      refine ⟨fun h => absurd h (by omega), fun _ => s_M_next (by omega) (by omega) ?_⟩
      have second : ∀ (y0 : Int32), isb y0 (∃ t, t < i + 1 ∧ ∃ c, c < n ∧ nx (z.2.1 17) b t = ix c) → pj_M_wantedBehind_36 K (fun x1 x2 x3 x4 z => lp_M_wantedBehind_7 K (k + 1) x1 x2 x3 x4 z) (ix b) x3 (ix i) (nx (z.2.1 17) b i) y0 z := by
        intro y0 hy
        have up : ∀ (p : Prop), (p ↔ (∀ t, t < i → ∀ c, c < n → nx (z.2.1 17) b t = ix c → Wt c) ∧ ∀ c, c < n → nx (z.2.1 17) b i = ix c → Wt c) → (p ↔ ∀ t, t < i + 1 → ∀ c, c < n → nx (z.2.1 17) b t = ix c → Wt c) := by
          intro p hp
          rw [hp]
          constructor
          · rintro ⟨a1, a2⟩ t ht c hc hx
            rcases Nat.lt_or_ge t i with e | e
            · exact a1 t e c hc hx
            · have : t = i := by omega
              subst this; exact a2 c hc hx
          · exact fun a => ⟨fun t ht => a t (by omega), a i (by omega)⟩
        simp (disch := omega) only [pj_M_wantedBehind_36, pj_M_wantedBehind_60, pj_M_wantedBehind_61, pj_M_wantedBehind_56, forall_eq, l0, l1, l2, l3, l4, l5, l6, l15, l16, l24, l30, l99, l100, l200, l385, lm1, ix_ne, ne_ix, ix_nat, vp_ix, ix_inj, ix_le, ix_lt, ix_add, ix_mul, ix_sub, nar0', nar1', or00, or01, or10, or11, rI, rIA, rIL, rA, rAI, rAL, rL, rLI, rLA, ru, ruL, reduceIte, Nat.reduceEqDiff, true_or, or_true, true_and, and_true, false_or, or_false, not_true_eq_false, not_false_eq_true, false_implies, true_implies, implies_true, i10, i01]
        refine ⟨fun h0 => ih (i + 1) _ _ (by omega) hy (Or.inr ⟨rfl, fun hh => (isb_z h3).1 h0 (((up _ Iff.rfl).2 hh).1)⟩), fun h0 => ⟨fun h1 => ih (i + 1) _ _ (by omega) hy (Or.inl ⟨rfl, (up _ Iff.rfl).1 ⟨isb_n h3 h0, fun c hc hx => ?_⟩⟩), fun h1 => ?_⟩⟩
        · rw [hx] at h1; exact absurd h1 (ix_nlt0 (by omega))
        · rcases okk i (by omega) with e | ⟨c, hc, e⟩
          · rw [e] at h1; exact absurd lt0 h1
          · rw [e]
            simp (disch := omega) only [forall_eq, l0, l1, l2, l3, l4, l5, l6, l15, l16, l24, l30, l99, l100, l200, l385, lm1, ix_ne, ne_ix, ix_nat, vp_ix, ix_inj, ix_le, ix_lt, ix_add, ix_mul, ix_sub, nar0', nar1', or00, or01, or10, or11, rI, rIA, rIL, rA, rAI, rAL, rL, rLI, rLA, ru, ruL, reduceIte, Nat.reduceEqDiff, true_or, or_true, true_and, and_true, false_or, or_false, not_true_eq_false, not_false_eq_true, false_implies, true_implies, implies_true, i10, i01]
            refine ⟨by omega, fun h2 => ih (i + 1) _ _ (by omega) hy (Or.inr ⟨rfl, fun hh => (isb_z (hW c hc)).1 h2 (hh i (by omega) c hc e)⟩), fun h2 => ih (i + 1) _ _ (by omega) hy (Or.inl ⟨rfl, (up _ Iff.rfl).1 ⟨isb_n h3 h0, fun d hd hx => ?_⟩⟩)⟩
            rw [e, ix_inj (by omega) (by omega)] at hx
            subst hx; exact isb_n (hW c hc) h2
      refine ⟨fun h0 => second _ (Or.inl ⟨rfl, ?_⟩), fun h0 => ⟨fun h1 => second _ (Or.inr ⟨rfl, ?_⟩), fun h1 => second _ (Or.inl ⟨rfl, ?_⟩)⟩⟩
      · obtain ⟨t, ht, hh⟩ := isb_n h2 h0
        exact ⟨t, by omega, hh⟩
      · rintro ⟨t, ht, c, hc, hx⟩
        rcases Nat.lt_or_ge t i with e | e
        · exact (isb_z h2).1 h0 ⟨t, e, c, hc, hx⟩
        · have : t = i := by omega
          subst this; rw [hx] at h1; exact absurd h1 (ix_nlt0 (by omega))
      · rcases okk i (by omega) with e | ⟨c, hc, e⟩
        · rw [e] at h1; exact absurd lt0 h1
        · exact ⟨i, by omega, c, hc, e⟩
  simp (disch := omega) only [wp_M_wantedBehind, forall_eq, l0, l1, l2, l3, l4, l5, l6, l15, l16, l24, l30, l99, l100, l200, l385, lm1, ix_ne, ne_ix, ix_nat, vp_ix, ix_inj, ix_le, ix_lt, ix_add, ix_mul, ix_sub, nar0', nar1', or00, or01, or10, or11, rI, rIA, rIL, rA, rAI, rAL, rL, rLI, rLA, ru, ruL, reduceIte, Nat.reduceEqDiff, true_or, or_true, true_and, and_true, false_or, or_false, not_true_eq_false, not_false_eq_true, false_implies, true_implies, implies_true, i10, i01]
  exact ⟨3, loop 2 0 _ _ rfl (Or.inr ⟨rfl, fun ⟨t, ht, _⟩ => by omega⟩) (Or.inl ⟨rfl, fun t ht => absurd ht (by omega)⟩)⟩
def EAm (n : Nat) (E : Nat → Nat → Prop) (Wt Bh Ch : Nat → Prop) (a b : Nat) : Prop := Wt b ∧ ¬ Bh a ∧ (Ch a ∨ ¬ ((∃ c, c < n ∧ E a c) ∧ ∀ c, c < n → E a c → Wt c))
theorem s_M_earliest {n : Nat} {E : Nat → Nat → Prop} {Rc Wt Bh Ch : Nat → Prop} {z : Sta} {K : Int32 → Sta → Prop} {a b : Nat} (H : HM n E Rc z) (ha : a < n) (hb1 : b < n) (hW : ∀ a, a < n → isb (z.2.1 29 a) (Wt a)) (hB : ∀ a, a < n → isb (z.2.1 28 a) (Bh a)) (hC : ∀ a, a < n → isb (z.2.1 24 a) (Ch a))
    (h : ∀ v, isb v (EAm n E Wt Bh Ch a b) → K v z) : wp_M_earliest (ix a) (ix b) z K := by
  have hn := H.1
  simp (disch := omega) only [wp_M_earliest, pj_M_earliest_43, pj_M_earliest_44, pj_M_earliest_39, forall_eq, l0, l1, l2, l3, l4, l5, l6, l15, l16, l24, l30, l99, l100, l200, l385, lm1, ix_ne, ne_ix, ix_nat, vp_ix, ix_inj, ix_le, ix_lt, ix_add, ix_mul, ix_sub, nar0', nar1', or00, or01, or10, or11, rI, rIA, rIL, rA, rAI, rAL, rL, rLI, rLA, ru, ruL, reduceIte, Nat.reduceEqDiff, true_or, or_true, true_and, and_true, false_or, or_false, not_true_eq_false, not_false_eq_true, false_implies, true_implies, implies_true, i10, i01]
  refine ⟨by omega, fun h0 => h _ (Or.inr ⟨rfl, fun hh => (isb_z (hW b hb1)).1 h0 hh.1⟩), fun h0 => ⟨fun h1 => absurd h1 (by omega), fun _ => ⟨by omega, fun h1 => h _ (Or.inr ⟨rfl, fun hh => hh.2.1 (isb_n (hB a ha) h1)⟩), fun h1 => ⟨by omega, fun h2 => h _ (Or.inl ⟨rfl, isb_n (hW b hb1) h0, (isb_z (hB a ha)).1 h1, Or.inl (isb_n (hC a ha) h2)⟩), fun h2 => s_M_wantedBehind H ha hW (fun v hv => ⟨fun h3 => h _ (Or.inr ⟨rfl, fun hh => ?_⟩), fun h3 => h _ (Or.inl ⟨rfl, isb_n (hW b hb1) h0, (isb_z (hB a ha)).1 h1, Or.inr ((isb_z hv).1 h3)⟩)⟩)⟩⟩⟩⟩
  exact hh.2.2.elim ((isb_z (hC a ha)).1 h2) (fun hh => hh (isb_n hv h3))
theorem s_M_earliestm {n : Nat} {Wt : Nat → Prop} {z : Sta} {K : Int32 → Sta → Prop} {b : Nat} (hn : n ≤ 16) (hb1 : b < n) (hW : ∀ a, a < n → isb (z.2.1 29 a) (Wt a)) (h : ∀ v, isb v (Wt b) → K v z) : wp_M_earliest mi (ix b) z K := by
  have lt0 : mi < ix 0 := by decide
  simp (disch := omega) only [wp_M_earliest, pj_M_earliest_43, pj_M_earliest_44, pj_M_earliest_39, lt0, forall_eq, l0, l1, l2, l3, l4, l5, l6, l15, l16, l24, l30, l99, l100, l200, l385, lm1, ix_ne, ne_ix, ix_nat, vp_ix, ix_inj, ix_le, ix_lt, ix_add, ix_mul, ix_sub, nar0', nar1', or00, or01, or10, or11, rI, rIA, rIL, rA, rAI, rAL, rL, rLI, rLA, ru, ruL, reduceIte, Nat.reduceEqDiff, true_or, or_true, true_and, and_true, false_or, or_false, not_true_eq_false, not_false_eq_true, false_implies, true_implies, implies_true, i10, i01]
  exact ⟨by omega, fun h0 => h _ (Or.inr ⟨rfl, (isb_z (hW b hb1)).1 h0⟩), fun h0 => h _ (Or.inl ⟨rfl, isb_n (hW b hb1) h0⟩)⟩
theorem s_M_laterOn {n : Nat} {E : Nat → Nat → Prop} {Rc Wt Bh Ch Lt As : Nat → Prop} {z : Sta} {K : Int32 → Sta → Prop} {a b : Nat} (H : HM n E Rc z) (ha : a < n) (hb1 : b < n) (hW : ∀ a, a < n → isb (z.2.1 29 a) (Wt a)) (hB : ∀ a, a < n → isb (z.2.1 28 a) (Bh a)) (hC : ∀ a, a < n → isb (z.2.1 24 a) (Ch a)) (hL : ∀ a, a < n → isb (z.2.1 31 a) (Lt a)) (hA : ∀ a, a < n → isb (z.2.1 25 a) (As a))
    (h : ∀ v, isb v (EAm n E Wt Bh Ch a b ∨ (Lt a ∧ ¬ As a)) → K v z) : wp_M_laterOn (ix a) (ix b) z K := by
  have hn := H.1
  simp (disch := omega) only [wp_M_laterOn, pj_M_laterOn_31, pj_M_laterOn_35, pj_M_laterOn_36, forall_eq, l0, l1, l2, l3, l4, l5, l6, l15, l16, l24, l30, l99, l100, l200, l385, lm1, ix_ne, ne_ix, ix_nat, vp_ix, ix_inj, ix_le, ix_lt, ix_add, ix_mul, ix_sub, nar0', nar1', or00, or01, or10, or11, rI, rIA, rIL, rA, rAI, rAL, rL, rLI, rLA, ru, ruL, reduceIte, Nat.reduceEqDiff, true_or, or_true, true_and, and_true, false_or, or_false, not_true_eq_false, not_false_eq_true, false_implies, true_implies, implies_true, i10, i01]
  refine s_M_earliest H ha hb1 hW hB hC (fun v hv => ⟨fun h0 => h _ (Or.inl ⟨rfl, Or.inl (isb_n hv h0)⟩), fun h0 => ⟨fun h1 => absurd h1 (by omega), fun _ => ⟨by omega, fun h1 => h _ (Or.inr ⟨rfl, fun hh => hh.elim ((isb_z hv).1 h0) (fun hh => (isb_z (hL a ha)).1 h1 hh.1)⟩), fun h1 => ⟨by omega, fun h2 => h _ (Or.inr ⟨rfl, fun hh => hh.elim ((isb_z hv).1 h0) (fun hh => hh.2 (isb_n (hA a ha) h2))⟩), fun h2 => h _ (Or.inl ⟨rfl, Or.inr ⟨isb_n (hL a ha) h1, (isb_z (hA a ha)).1 h2⟩⟩)⟩⟩⟩⟩)
theorem s_M_laterOnm {n : Nat} {Wt : Nat → Prop} {z : Sta} {K : Int32 → Sta → Prop} {b : Nat} (hn : n ≤ 16) (hb1 : b < n) (hW : ∀ a, a < n → isb (z.2.1 29 a) (Wt a)) (h : ∀ v, isb v (Wt b) → K v z) : wp_M_laterOn mi (ix b) z K := by
  have lt0 : mi < ix 0 := by decide
  simp (disch := omega) only [wp_M_laterOn, pj_M_laterOn_31, pj_M_laterOn_35, pj_M_laterOn_36, lt0, forall_eq, l0, l1, l2, l3, l4, l5, l6, l15, l16, l24, l30, l99, l100, l200, l385, lm1, ix_ne, ne_ix, ix_nat, vp_ix, ix_inj, ix_le, ix_lt, ix_add, ix_mul, ix_sub, nar0', nar1', or00, or01, or10, or11, rI, rIA, rIL, rA, rAI, rAL, rL, rLI, rLA, ru, ruL, reduceIte, Nat.reduceEqDiff, true_or, or_true, true_and, and_true, false_or, or_false, not_true_eq_false, not_false_eq_true, false_implies, true_implies, implies_true, i10, i01]
  exact s_M_earliestm hn hb1 hW (fun v hv => ⟨fun h0 => h _ (Or.inl ⟨rfl, isb_n hv h0⟩), fun h0 => h _ (Or.inr ⟨rfl, (isb_z hv).1 h0⟩)⟩)
theorem s_M_lateBefore {n : Nat} {E : Nat → Nat → Prop} {Rc Wt Bh Ch Lt As : Nat → Prop} {z : Sta} {K : Int32 → Sta → Prop} {b : Nat} (H : HM n E Rc z) (hb1 : b < n) (hW : ∀ a, a < n → isb (z.2.1 29 a) (Wt a)) (hB : ∀ a, a < n → isb (z.2.1 28 a) (Bh a)) (hC : ∀ a, a < n → isb (z.2.1 24 a) (Ch a)) (hL : ∀ a, a < n → isb (z.2.1 31 a) (Lt a)) (hA : ∀ a, a < n → isb (z.2.1 25 a) (As a))
    (h : ∀ v, isb v ((b = 0 → Wt b) ∧ ∀ a, a < n → Rc a → E a b → (EAm n E Wt Bh Ch a b ∨ (Lt a ∧ ¬ As a))) → K v z) : wp_M_lateBefore (ix b) z K := by
  have hn := H.1
  have hN := H.2.2.1
  have loop : ∀ (k i : Nat) (x2 : Int32), i + k = n → isb x2 ((b = 0 → Wt b) ∧ ∀ a, a < i → Rc a → E a b → (EAm n E Wt Bh Ch a b ∨ (Lt a ∧ ¬ As a))) → lp_M_lateBefore_21 K (k + 1) (ix b) x2 (ix i) z := by
    intro k
    induction k with
    | zero =>
      intro i x2 hik hx
      rw [lp_M_lateBefore_21]
      simp (disch := omega) only [hN, forall_eq, l0, l1, l2, l3, l4, l5, l6, l15, l16, l24, l30, l99, l100, l200, l385, lm1, ix_ne, ne_ix, ix_nat, vp_ix, ix_inj, ix_le, ix_lt, ix_add, ix_mul, ix_sub, nar0', nar1', or00, or01, or10, or11, rI, rIA, rIL, rA, rAI, rAL, rL, rLI, rLA, ru, ruL, reduceIte, Nat.reduceEqDiff, true_or, or_true, true_and, and_true, false_or, or_false, not_true_eq_false, not_false_eq_true, false_implies, true_implies, implies_true, i10, i01]
      have : i = n := by omega
      subst this
      exact ⟨fun _ => ⟨isb_b hx, h x2 hx⟩, fun h => absurd (by omega) h⟩
    | succ k ih =>
      intro i x2 hik hx
      rw [lp_M_lateBefore_21]
      simp (disch := omega) only [hN, pj_M_lateBefore_55, pj_M_lateBefore_56, pj_M_lateBefore_51, forall_eq, l0, l1, l2, l3, l4, l5, l6, l15, l16, l24, l30, l99, l100, l200, l385, lm1, ix_ne, ne_ix, ix_nat, vp_ix, ix_inj, ix_le, ix_lt, ix_add, ix_mul, ix_sub, nar0', nar1', or00, or01, or10, or11, rI, rIA, rIL, rA, rAI, rAL, rL, rLI, rLA, ru, ruL, reduceIte, Nat.reduceEqDiff, true_or, or_true, true_and, and_true, false_or, or_false, not_true_eq_false, not_false_eq_true, false_implies, true_implies, implies_true, i10, i01]
      refine ⟨fun h => absurd h (by omega), fun _ => ⟨fun h0 => ih (i + 1) _ (by omega) (Or.inr ⟨rfl, fun hh => (isb_z hx).1 h0 ⟨hh.1, fun a ha => hh.2 a (by omega)⟩⟩), fun h0 => ?_⟩⟩
      have hx := isb_n hx h0
      refine s_M_edge' H (by omega) hb1 (fun v hv => ⟨fun h1 => ih (i + 1) _ (by omega) (Or.inl ⟨rfl, hx.1, fun a ha hra he => ?_⟩), fun h1 => s_M_laterOn H (by omega) hb1 hW hB hC hL hA (fun v2 hv2 => ⟨fun h2 => ih (i + 1) _ (by omega) (Or.inr ⟨rfl, fun hh => ?_⟩), fun h2 => ih (i + 1) _ (by omega) (Or.inl ⟨rfl, hx.1, fun a ha hra he => ?_⟩)⟩)⟩)
      · rcases Nat.lt_or_ge a i with e | e
        · exact hx.2 a e hra he
        · have : a = i := by omega
          subst this; exact absurd ⟨hra, he⟩ ((isb_z hv).1 h1)
      · have := isb_n hv h1
        exact (isb_z hv2).1 h2 (hh.2 i (by omega) this.1 this.2)
      · rcases Nat.lt_or_ge a i with e | e
        · exact hx.2 a e hra he
        · have : a = i := by omega
          subst this; exact isb_n hv2 h2
  simp (disch := omega) only [wp_M_lateBefore, pj_M_lateBefore_13, pj_M_lateBefore_18, forall_eq, l0, l1, l2, l3, l4, l5, l6, l15, l16, l24, l30, l99, l100, l200, l385, lm1, ix_ne, ne_ix, ix_nat, vp_ix, ix_inj, ix_le, ix_lt, ix_add, ix_mul, ix_sub, nar0', nar1', or00, or01, or10, or11, rI, rIA, rIL, rA, rAI, rAL, rL, rLI, rLA, ru, ruL, reduceIte, Nat.reduceEqDiff, true_or, or_true, true_and, and_true, false_or, or_false, not_true_eq_false, not_false_eq_true, false_implies, true_implies, implies_true, i10, i01]
  refine ⟨fun h0 => ⟨n + 1, loop n 0 _ (by omega) (Or.inl ⟨rfl, fun e => absurd e (by omega), fun a ha => absurd ha (by omega)⟩)⟩, fun h0 => ?_⟩
  have e0 : b = 0 := by omega
  refine s_M_laterOnm hn (b := 0) (by omega) hW (fun v hv => ⟨fun h1 => ⟨n + 1, loop n 0 _ (by omega) (Or.inr ⟨rfl, fun hh => ?_⟩)⟩, fun h1 => ⟨n + 1, loop n 0 _ (by omega) (Or.inl ⟨rfl, fun e => ?_, fun a ha => absurd ha (by omega)⟩)⟩⟩)
  · have := hh.1 e0; rw [e0] at this; exact (isb_z hv).1 h1 this
  · rw [e0]; exact isb_n hv h1
def onesA (r : Nat → Int32) : Nat := cnt (fun b => decide (r b = ix 1)) 16
def arw (w : Nat) : Nat := if w = 0 then 28 else if w = 1 then 29 else 31
def SJ (n : Nat) (Rc : Nat → Prop) (F : (Nat → Prop) → Nat → Prop) (PF : (Nat → Prop) → Prop) (X0 : Nat → Prop) (i : Nat) (ch : Prop) (X : Nat → Prop) : Prop :=
  (∀ Y b, PF Y → Y b → X b) ∧ (∀ b, X b → X0 b) ∧ (∀ b, b < i → ¬ Rc b → ¬ X b) ∧ (¬ ch → (∀ b, b < n → Rc b → X0 b → X b) ∧ ∀ b, b < i → Rc b → X b → F X b) ∧ (ch → ∃ b, b < n ∧ X0 b ∧ ¬ X b)
theorem s_M_settle {n : Nat} {E : Nat → Nat → Prop} {Rc : Nat → Prop} {F : (Nat → Prop) → Nat → Prop} {z : Sta} {K : Sta → Prop} {w : Nat} (hw : w < 3) (H : HM n E Rc z)
    (hFm : ∀ X Y b, b < n → Rc b → (∀ c, c < n → Rc c → X c → Y c) → F X b → F Y b)
    (hev : ∀ (R : Int32 → Int32 → Int32 → Sta → Prop) (x2 : Int32) (b : Nat) (y : Sta) (X : Nat → Prop), b < n → Rc b → fr [] [arw w] [] z y → (∀ b, b < 16 → isb (y.2.1 (arw w) b) (X b)) →
      (F X b → pj_M_settle_161 K R (ix w) x2 (ix b) (ix 1) (ix 1) y) → (¬ F X b → pj_M_settle_161 K R (ix w) x2 (ix b) (ix 1) (ix 0) y) → pj_M_settle_74 K R (ix w) x2 (ix b) (ix 1) y)
    (h1 : ∀ b, b < 16 → z.2.1 (arw w) b = ix 1)
    (hK : ∀ y X, fr [] [arw w] [] z y → (∀ b, b < 16 → isb (y.2.1 (arw w) b) (X b)) → (∀ Y b, (∀ c, Y c → c < n ∧ Rc c ∧ F Y c) → Y b → X b) → (∀ b, b < n → X b → Rc b ∧ F X b) → K y) : wp_M_settle (ix w) z K := by
  have hn := H.1
  have hr := H.2.2.2.2.2
  have hw3 : (w = 0 ∧ arw w = 28) ∨ (w = 1 ∧ arw w = 29) ∨ (w = 2 ∧ arw w = 31) := by
    rcases (by omega : w = 0 ∨ w = 1 ∨ w = 2) with e | e | e <;> subst e <;> simp [arw]
  have har : arw w ≠ 8 ∧ arw w ≠ 17 ∧ arw w ≠ 21 := by
    rcases hw3 with ⟨_, e⟩ | ⟨_, e⟩ | ⟨_, e⟩ <;> rw [e] <;> decide
  let PF : (Nat → Prop) → Prop := fun Y => ∀ c, Y c → c < n ∧ Rc c ∧ F Y c
  have hwr : ∀ (R : Int32 → Int32 → Int32 → Sta → Prop) (b : Nat) (v m : Int32) (y : Sta), b < 16 → (v = ix 0 ∨ v = ix 1) → R (ix w) m (ix (b + 1)) (zA y (arw w) (upd (y.2.1 (arw w)) b v)) → pj_M_settle_182 K R (ix w) (ix b) v m y := by
    intro R b v m y hb1 hv hR
    have hnv : vp_nar .boolean v = v := by
      rcases hv with h | h <;> rw [h] <;> decide
    rcases hw3 with ⟨e, e2⟩ | ⟨e, e2⟩ | ⟨e, e2⟩ <;> rw [e2] at hR <;> subst e
    · simp (disch := omega) only [pj_M_settle_182, pj_M_settle_195, pj_M_settle_208, pj_M_settle_221, hnv, forall_eq, l0, l1, l2, l3, l4, l5, l6, l15, l16, l24, l30, l99, l100, l200, l385, lm1, ix_ne, ne_ix, ix_nat, vp_ix, ix_inj, ix_le, ix_lt, ix_add, ix_mul, ix_sub, nar0', nar1', or00, or01, or10, or11, rI, rIA, rIL, rA, rAI, rAL, rL, rLI, rLA, ru, ruL, reduceIte, Nat.reduceEqDiff, true_or, or_true, true_and, and_true, false_or, or_false, not_true_eq_false, not_false_eq_true, false_implies, true_implies, implies_true, i10, i01]
      exact ⟨by omega, hR⟩
    · simp (disch := omega) only [pj_M_settle_182, pj_M_settle_195, pj_M_settle_208, pj_M_settle_221, hnv, forall_eq, l0, l1, l2, l3, l4, l5, l6, l15, l16, l24, l30, l99, l100, l200, l385, lm1, ix_ne, ne_ix, ix_nat, vp_ix, ix_inj, ix_le, ix_lt, ix_add, ix_mul, ix_sub, nar0', nar1', or00, or01, or10, or11, rI, rIA, rIL, rA, rAI, rAL, rL, rLI, rLA, ru, ruL, reduceIte, Nat.reduceEqDiff, true_or, or_true, true_and, and_true, false_or, or_false, not_true_eq_false, not_false_eq_true, false_implies, true_implies, implies_true, i10, i01]
      exact ⟨by omega, hR⟩
    · simp (disch := omega) only [pj_M_settle_182, pj_M_settle_195, pj_M_settle_208, pj_M_settle_221, hnv, forall_eq, l0, l1, l2, l3, l4, l5, l6, l15, l16, l24, l30, l99, l100, l200, l385, lm1, ix_ne, ne_ix, ix_nat, vp_ix, ix_inj, ix_le, ix_lt, ix_add, ix_mul, ix_sub, nar0', nar1', or00, or01, or10, or11, rI, rIA, rIL, rA, rAI, rAL, rL, rLI, rLA, ru, ruL, reduceIte, Nat.reduceEqDiff, true_or, or_true, true_and, and_true, false_or, or_false, not_true_eq_false, not_false_eq_true, false_implies, true_implies, implies_true, i10, i01]
      exact ⟨by omega, hR⟩
  have inner : ∀ (X0 : Nat → Prop) (R : Int32 → Int32 → Sta → Prop) (k i : Nat) (ch : Prop) (x2 : Int32) (y : Sta) (X : Nat → Prop), i + k = n → fr [] [arw w] [] z y → (∀ b, b < 16 → isb (y.2.1 (arw w) b) (X b)) → isb x2 ch → SJ n Rc F PF X0 i ch X →
      (∀ (ch : Prop) (x2 : Int32) (y : Sta) (X : Nat → Prop), fr [] [arw w] [] z y → (∀ b, b < 16 → isb (y.2.1 (arw w) b) (X b)) → isb x2 ch → SJ n Rc F PF X0 n ch X → R (ix w) x2 y) →
      lp_M_settle_10 K R (k + 1) (ix w) x2 (ix i) y := by
    intro X0 R k
    induction k with
    | zero =>
      intro i ch x2 y X hik hfr hX hx hS hR
      have hN' : y.1 8 = ix n := (hfr.1 8 (by decide)).trans H.2.2.1
      rw [lp_M_settle_10]
      simp (disch := omega) only [hN', forall_eq, l0, l1, l2, l3, l4, l5, l6, l15, l16, l24, l30, l99, l100, l200, l385, lm1, ix_ne, ne_ix, ix_nat, vp_ix, ix_inj, ix_le, ix_lt, ix_add, ix_mul, ix_sub, nar0', nar1', or00, or01, or10, or11, rI, rIA, rIL, rA, rAI, rAL, rL, rLI, rLA, ru, ruL, reduceIte, Nat.reduceEqDiff, true_or, or_true, true_and, and_true, false_or, or_false, not_true_eq_false, not_false_eq_true, false_implies, true_implies, implies_true, i10, i01]
      have : i = n := by omega
      subst this
      exact ⟨fun _ => hR ch x2 y X hfr hX hx hS, fun h => absurd (by omega) h⟩
    | succ k ih =>
      intro i ch x2 y X hik hfr hX hx hS hR
      have hN' : y.1 8 = ix n := (hfr.1 8 (by decide)).trans H.2.2.1
      have h21 : y.2.1 21 = z.2.1 21 := hfr.2.1 21 (by simp only [List.mem_singleton]; exact fun h => har.2.2 h.symm)
      obtain ⟨s1, s2, s3, s4, s5⟩ := hS
      have go : ∀ (x4 v : Int32), isb x4 (Rc i ∧ X i) → isb v (Rc i ∧ X i ∧ F X i) → pj_M_settle_161 K (fun x1 x2 x3 z => lp_M_settle_10 K R (k + 1) x1 x2 x3 z) (ix w) x2 (ix i) x4 v y := by
        intro x4 v hx4 hv
        let X' : Nat → Prop := fun b => if b = i then (Rc i ∧ X i ∧ F X i) else X b
        have hX' : ∀ b, b < 16 → isb ((zA y (arw w) (upd (y.2.1 (arw w)) i v)).2.1 (arw w) b) (X' b) := by
          intro b hb1
          rw [rA, if_pos rfl, ru]
          show isb _ (if b = i then (Rc i ∧ X i ∧ F X i) else X b)
          split
          · exact hv
          · exact hX b hb1
        have hfr' : fr [] [arw w] [] z (zA y (arw w) (upd (y.2.1 (arw w)) i v)) := fr_A hfr (List.mem_singleton.2 rfl) _
        have sub : ∀ b, X' b → X b := by
          intro b hh
          have hh : if b = i then (Rc i ∧ X i ∧ F X i) else X b := hh
          split at hh
          · next e => rw [e]; exact hh.2.1
          · exact hh
        have c1 : ∀ Y b, PF Y → Y b → X' b := by
          intro Y b hP hY
          show if b = i then (Rc i ∧ X i ∧ F X i) else X b
          split
          · next e =>
            rw [e] at hY
            exact ⟨(hP i hY).2.1, s1 Y i hP hY, hFm Y X i (by omega) (hP i hY).2.1 (fun c _ _ h => s1 Y c hP h) (hP i hY).2.2⟩
          · exact s1 Y b hP hY
        have c3 : ∀ b, b < i + 1 → ¬ Rc b → ¬ X' b := by
          intro b hb1 hrb hh
          have hh2 : if b = i then (Rc i ∧ X i ∧ F X i) else X b := hh
          split at hh2
          · next e => rw [e] at hrb; exact hrb hh2.1
          · exact s3 b (by omega) hrb hh2
        have fin : ∀ (m : Int32) (ch' : Prop), isb m ch' → (ch' ↔ ch ∨ ((Rc i ∧ X i) ∧ ¬ (Rc i ∧ X i ∧ F X i))) → pj_M_settle_182 K (fun x1 x2 x3 z => lp_M_settle_10 K R (k + 1) x1 x2 x3 z) (ix w) (ix i) v m y := by
          intro m ch' hm hch
          refine hwr _ i v m y (by omega) (isb_b hv) (ih (i + 1) ch' m _ X' (by omega) hfr' hX' hm ⟨c1, fun b hh => s2 b (sub b hh), c3, fun hc => ?_, fun hc => ?_⟩ hR)
          · have hnc : ¬ ch := fun h => hc (hch.2 (Or.inl h))
            have hnf : ¬ ((Rc i ∧ X i) ∧ ¬ (Rc i ∧ X i ∧ F X i)) := fun h => hc (hch.2 (Or.inr h))
            have keep : ∀ b, b < n → Rc b → X b → X' b := by
              intro b hb1 hrb hXb
              show if b = i then (Rc i ∧ X i ∧ F X i) else X b
              split
              · next e =>
                rw [e] at hrb hXb
                exact Classical.byContradiction fun hh => hnf ⟨⟨hrb, hXb⟩, hh⟩
              · exact hXb
            refine ⟨fun b hb1 hrb h0 => keep b hb1 hrb ((s4 hnc).1 b hb1 hrb h0), fun b hb1 hrb hh => ?_⟩
            refine hFm X X' b (by omega) hrb (fun c hc1 hrc hXc => keep c hc1 hrc hXc) ?_
            rcases Nat.lt_or_ge b i with e | e
            · exact (s4 hnc).2 b e hrb (sub b hh)
            · have e2 : b = i := by omega
              have hh2 : if b = i then (Rc i ∧ X i ∧ F X i) else X b := hh
              rw [if_pos e2] at hh2
              rw [e2]; exact hh2.2.2
          · rcases hch.1 hc with h | h
            · obtain ⟨b, hb1, h0, hnx⟩ := s5 h
              exact ⟨b, hb1, h0, fun hh => hnx (sub b hh)⟩
            · refine ⟨i, by omega, s2 i h.1.2, fun hh => h.2 ?_⟩
              have hh2 : if i = i then (Rc i ∧ X i ∧ F X i) else X i := hh
              rw [if_pos rfl] at hh2; exact hh2
        simp (disch := omega) only [pj_M_settle_161, pj_M_settle_177, pj_M_settle_181, forall_eq, l0, l1, l2, l3, l4, l5, l6, l15, l16, l24, l30, l99, l100, l200, l385, lm1, ix_ne, ne_ix, ix_nat, vp_ix, ix_inj, ix_le, ix_lt, ix_add, ix_mul, ix_sub, nar0', nar1', or00, or01, or10, or11, rI, rIA, rIL, rA, rAI, rAL, rL, rLI, rLA, ru, ruL, reduceIte, Nat.reduceEqDiff, true_or, or_true, true_and, and_true, false_or, or_false, not_true_eq_false, not_false_eq_true, false_implies, true_implies, implies_true, i10, i01]
        refine ⟨fun h0 => fin _ True (Or.inl ⟨rfl, trivial⟩) ⟨fun _ => Or.inl (isb_n hx h0), fun _ => trivial⟩, fun h0 => ?_⟩
        have hnc := (isb_z hx).1 h0
        refine ⟨fun h2 => fin _ False (Or.inr ⟨rfl, fun h => h⟩) ⟨fun h => h.elim, fun h => h.elim hnc (fun h => (isb_z hx4).1 h2 h.1)⟩, fun h2 => ⟨fun h3 => fin _ False (Or.inr ⟨rfl, fun h => h⟩) ⟨fun h => h.elim, fun h => h.elim hnc (fun h => h.2 (isb_n hv h3))⟩, fun h3 => fin _ True (Or.inl ⟨rfl, trivial⟩) ⟨fun _ => Or.inr ⟨isb_n hx4 h2, (isb_z hv).1 h3⟩, fun _ => trivial⟩⟩⟩
      have no : ¬ (Rc i ∧ X i) → pj_M_settle_73 K (fun x1 x2 x3 z => lp_M_settle_10 K R (k + 1) x1 x2 x3 z) (ix w) x2 (ix i) y := by
        intro hh
        simp (disch := omega) only [pj_M_settle_73, pj_M_settle_74, pj_M_settle_160, forall_eq, l0, l1, l2, l3, l4, l5, l6, l15, l16, l24, l30, l99, l100, l200, l385, lm1, ix_ne, ne_ix, ix_nat, vp_ix, ix_inj, ix_le, ix_lt, ix_add, ix_mul, ix_sub, nar0', nar1', or00, or01, or10, or11, rI, rIA, rIL, rA, rAI, rAL, rL, rLI, rLA, ru, ruL, reduceIte, Nat.reduceEqDiff, true_or, or_true, true_and, and_true, false_or, or_false, not_true_eq_false, not_false_eq_true, false_implies, true_implies, implies_true, i10, i01]
        exact go _ _ (Or.inr ⟨rfl, hh⟩) (Or.inr ⟨rfl, fun h => hh ⟨h.1, h.2.1⟩⟩)
      have yes : (Rc i ∧ X i) → pj_M_settle_69 K (fun x1 x2 x3 z => lp_M_settle_10 K R (k + 1) x1 x2 x3 z) (ix w) x2 (ix i) y := by
        intro hh
        simp (disch := omega) only [pj_M_settle_69, forall_eq, l0, l1, l2, l3, l4, l5, l6, l15, l16, l24, l30, l99, l100, l200, l385, lm1, ix_ne, ne_ix, ix_nat, vp_ix, ix_inj, ix_le, ix_lt, ix_add, ix_mul, ix_sub, nar0', nar1', or00, or01, or10, or11, rI, rIA, rIL, rA, rAI, rAL, rL, rLI, rLA, ru, ruL, reduceIte, Nat.reduceEqDiff, true_or, or_true, true_and, and_true, false_or, or_false, not_true_eq_false, not_false_eq_true, false_implies, true_implies, implies_true, i10, i01]
        exact hev _ x2 i y X (by omega) hh.1 hfr hX (fun hF => go _ _ (Or.inl ⟨rfl, hh⟩) (Or.inl ⟨rfl, hh.1, hh.2, hF⟩)) (fun hF => go _ _ (Or.inl ⟨rfl, hh⟩) (Or.inr ⟨rfl, fun h => hF h.2.2⟩))
      have hXi := hX i (by omega)
      rw [lp_M_settle_10]
      simp (disch := omega) only [hN', h21, forall_eq, l0, l1, l2, l3, l4, l5, l6, l15, l16, l24, l30, l99, l100, l200, l385, lm1, ix_ne, ne_ix, ix_nat, vp_ix, ix_inj, ix_le, ix_lt, ix_add, ix_mul, ix_sub, nar0', nar1', or00, or01, or10, or11, rI, rIA, rIL, rA, rAI, rAL, rL, rLI, rLA, ru, ruL, reduceIte, Nat.reduceEqDiff, true_or, or_true, true_and, and_true, false_or, or_false, not_true_eq_false, not_false_eq_true, false_implies, true_implies, implies_true, i10, i01]
      refine ⟨fun h => absurd h (by omega), fun _ => ⟨by omega, fun h0 => no (fun hh => (isb_z (hr i (by omega))).1 h0 hh.1), fun h0 => ?_⟩⟩
      have hri := isb_n (hr i (by omega)) h0
      rcases hw3 with ⟨e, e2⟩ | ⟨e, e2⟩ | ⟨e, e2⟩ <;> rw [e2] at hXi <;> subst e
      · simp (disch := omega) only [forall_eq, l0, l1, l2, l3, l4, l5, l6, l15, l16, l24, l30, l99, l100, l200, l385, lm1, ix_ne, ne_ix, ix_nat, vp_ix, ix_inj, ix_le, ix_lt, ix_add, ix_mul, ix_sub, nar0', nar1', or00, or01, or10, or11, rI, rIA, rIL, rA, rAI, rAL, rL, rLI, rLA, ru, ruL, reduceIte, Nat.reduceEqDiff, true_or, or_true, true_and, and_true, false_or, or_false, not_true_eq_false, not_false_eq_true, false_implies, true_implies, implies_true, i10, i01]
        exact ⟨by omega, fun h2 => no (fun hh => (isb_z hXi).1 h2 hh.2), fun h2 => yes ⟨hri, isb_n hXi h2⟩⟩
      · simp (disch := omega) only [forall_eq, l0, l1, l2, l3, l4, l5, l6, l15, l16, l24, l30, l99, l100, l200, l385, lm1, ix_ne, ne_ix, ix_nat, vp_ix, ix_inj, ix_le, ix_lt, ix_add, ix_mul, ix_sub, nar0', nar1', or00, or01, or10, or11, rI, rIA, rIL, rA, rAI, rAL, rL, rLI, rLA, ru, ruL, reduceIte, Nat.reduceEqDiff, true_or, or_true, true_and, and_true, false_or, or_false, not_true_eq_false, not_false_eq_true, false_implies, true_implies, implies_true, i10, i01]
        exact ⟨by omega, fun h2 => no (fun hh => (isb_z hXi).1 h2 hh.2), fun h2 => yes ⟨hri, isb_n hXi h2⟩⟩
      · simp (disch := omega) only [forall_eq, l0, l1, l2, l3, l4, l5, l6, l15, l16, l24, l30, l99, l100, l200, l385, lm1, ix_ne, ne_ix, ix_nat, vp_ix, ix_inj, ix_le, ix_lt, ix_add, ix_mul, ix_sub, nar0', nar1', or00, or01, or10, or11, rI, rIA, rIL, rA, rAI, rAL, rL, rLI, rLA, ru, ruL, reduceIte, Nat.reduceEqDiff, true_or, or_true, true_and, and_true, false_or, or_false, not_true_eq_false, not_false_eq_true, false_implies, true_implies, implies_true, i10, i01]
        exact ⟨by omega, fun h2 => no (fun hh => (isb_z hXi).1 h2 hh.2), fun h2 => yes ⟨hri, isb_n hXi h2⟩⟩
  have outer : ∀ (k : Nat) (x2 : Int32) (ch : Prop) (y : Sta) (X : Nat → Prop), fr [] [arw w] [] z y → (∀ b, b < 16 → isb (y.2.1 (arw w) b) (X b)) → isb x2 ch → (∀ Y b, PF Y → Y b → X b) → (¬ ch → ∀ b, b < n → X b → Rc b ∧ F X b) → onesA (y.2.1 (arw w)) ≤ k → lp_M_settle_2 K (k + 2) (ix w) x2 y := by
    intro k
    induction k with
    | zero =>
      intro x2 ch y X hfr hX hx hov hq hm
      rw [lp_M_settle_2]
      simp (disch := omega) only [forall_eq, l0, l1, l2, l3, l4, l5, l6, l15, l16, l24, l30, l99, l100, l200, l385, lm1, ix_ne, ne_ix, ix_nat, vp_ix, ix_inj, ix_le, ix_lt, ix_add, ix_mul, ix_sub, nar0', nar1', or00, or01, or10, or11, rI, rIA, rIL, rA, rAI, rAL, rL, rLI, rLA, ru, ruL, reduceIte, Nat.reduceEqDiff, true_or, or_true, true_and, and_true, false_or, or_false, not_true_eq_false, not_false_eq_true, false_implies, true_implies, implies_true, i10, i01]
      refine ⟨fun h0 => hK y X hfr hX (fun Y b hP => hov Y b hP) (hq ((isb_z hx).1 h0)), fun h0 => ⟨n + 1, inner X _ n 0 False (ix 0) y X (by omega) hfr hX (Or.inr ⟨rfl, fun h => h⟩) ⟨hov, fun _ h => h, fun b hb1 => absurd hb1 (by omega), fun _ => ⟨fun _ _ _ h => h, fun b hb1 => absurd hb1 (by omega)⟩, fun h => h.elim⟩ (fun ch1 x2 y1 X1 hfr1 hX1 hx1 hS1 => ?_)⟩⟩
      have hnc : ¬ ch1 := by
        intro hc
        obtain ⟨b, hb1, h0, hn1⟩ := hS1.2.2.2.2 hc
        have : onesA (y1.2.1 (arw w)) < onesA (y.2.1 (arw w)) := cnt_lt (fun i hi hh => decide_eq_true (isb_t (hX i hi) (hS1.2.1 i (Classical.byContradiction fun h => i01 ((isb_f (hX1 i hi) h).symm.trans (of_decide_eq_true hh)))))) (k := b) (by omega) (decide_eq_false (by rw [isb_f (hX1 b (by omega)) hn1]; exact i01)) (decide_eq_true (isb_t (hX b (by omega)) h0))
        omega
      rw [lp_M_settle_2]
      simp (disch := omega) only [forall_eq, l0, l1, l2, l3, l4, l5, l6, l15, l16, l24, l30, l99, l100, l200, l385, lm1, ix_ne, ne_ix, ix_nat, vp_ix, ix_inj, ix_le, ix_lt, ix_add, ix_mul, ix_sub, nar0', nar1', or00, or01, or10, or11, rI, rIA, rIL, rA, rAI, rAL, rL, rLI, rLA, ru, ruL, reduceIte, Nat.reduceEqDiff, true_or, or_true, true_and, and_true, false_or, or_false, not_true_eq_false, not_false_eq_true, false_implies, true_implies, implies_true, i10, i01]
      refine ⟨fun _ => hK y1 X1 hfr1 hX1 (fun Y b hP => hS1.1 Y b hP) (fun b hb1 hh => ?_), fun h => absurd ((isb_z hx1).2 hnc) h⟩
      have hrb : Rc b := Classical.byContradiction fun h => hS1.2.2.1 b hb1 h hh
      exact ⟨hrb, (hS1.2.2.2.1 hnc).2 b hb1 hrb hh⟩
    | succ k ih =>
      intro x2 ch y X hfr hX hx hov hq hm
      rw [lp_M_settle_2]
      simp (disch := omega) only [forall_eq, l0, l1, l2, l3, l4, l5, l6, l15, l16, l24, l30, l99, l100, l200, l385, lm1, ix_ne, ne_ix, ix_nat, vp_ix, ix_inj, ix_le, ix_lt, ix_add, ix_mul, ix_sub, nar0', nar1', or00, or01, or10, or11, rI, rIA, rIL, rA, rAI, rAL, rL, rLI, rLA, ru, ruL, reduceIte, Nat.reduceEqDiff, true_or, or_true, true_and, and_true, false_or, or_false, not_true_eq_false, not_false_eq_true, false_implies, true_implies, implies_true, i10, i01]
      refine ⟨fun h0 => hK y X hfr hX (fun Y b hP => hov Y b hP) (hq ((isb_z hx).1 h0)), fun h0 => ⟨n + 1, inner X _ n 0 False (ix 0) y X (by omega) hfr hX (Or.inr ⟨rfl, fun h => h⟩) ⟨hov, fun _ h => h, fun b hb1 => absurd hb1 (by omega), fun _ => ⟨fun _ _ _ h => h, fun b hb1 => absurd hb1 (by omega)⟩, fun h => h.elim⟩ (fun ch1 x2 y1 X1 hfr1 hX1 hx1 hS1 => ?_)⟩⟩
      have hfin : ¬ ch1 → ∀ b, b < n → X1 b → Rc b ∧ F X1 b := by
        intro hnc b hb1 hh
        have hrb : Rc b := Classical.byContradiction fun h => hS1.2.2.1 b hb1 h hh
        exact ⟨hrb, (hS1.2.2.2.1 hnc).2 b hb1 hrb hh⟩
      by_cases hc : ch1
      · obtain ⟨b, hb1, h0, hn1⟩ := hS1.2.2.2.2 hc
        have : onesA (y1.2.1 (arw w)) < onesA (y.2.1 (arw w)) := cnt_lt (fun i hi hh => decide_eq_true (isb_t (hX i hi) (hS1.2.1 i (Classical.byContradiction fun h => i01 ((isb_f (hX1 i hi) h).symm.trans (of_decide_eq_true hh)))))) (k := b) (by omega) (decide_eq_false (by rw [isb_f (hX1 b (by omega)) hn1]; exact i01)) (decide_eq_true (isb_t (hX b (by omega)) h0))
        exact ih x2 ch1 y1 X1 hfr1 hX1 hx1 hS1.1 hfin (by omega)
      · rw [lp_M_settle_2]
        simp (disch := omega) only [forall_eq, l0, l1, l2, l3, l4, l5, l6, l15, l16, l24, l30, l99, l100, l200, l385, lm1, ix_ne, ne_ix, ix_nat, vp_ix, ix_inj, ix_le, ix_lt, ix_add, ix_mul, ix_sub, nar0', nar1', or00, or01, or10, or11, rI, rIA, rIL, rA, rAI, rAL, rL, rLI, rLA, ru, ruL, reduceIte, Nat.reduceEqDiff, true_or, or_true, true_and, and_true, false_or, or_false, not_true_eq_false, not_false_eq_true, false_implies, true_implies, implies_true, i10, i01]
        exact ⟨fun _ => hK y1 X1 hfr1 hX1 (fun Y b hP => hS1.1 Y b hP) (hfin hc), fun h => absurd ((isb_z hx1).2 hc) h⟩
  simp (disch := omega) only [wp_M_settle, forall_eq, l0, l1, l2, l3, l4, l5, l6, l15, l16, l24, l30, l99, l100, l200, l385, lm1, ix_ne, ne_ix, ix_nat, vp_ix, ix_inj, ix_le, ix_lt, ix_add, ix_mul, ix_sub, nar0', nar1', or00, or01, or10, or11, rI, rIA, rIL, rA, rAI, rAL, rL, rLI, rLA, ru, ruL, reduceIte, Nat.reduceEqDiff, true_or, or_true, true_and, and_true, false_or, or_false, not_true_eq_false, not_false_eq_true, false_implies, true_implies, implies_true, i10, i01]
  exact ⟨18, outer 16 (ix 1) True z (fun _ => True) (fr_refl z) (fun b hb1 => Or.inl ⟨h1 b hb1, trivial⟩) (Or.inl ⟨rfl, trivial⟩) (fun _ _ _ _ => trivial) (fun h => absurd trivial h) (cnt_le _ _)⟩
def SR (f g : Nat → Int32) (e : Nat) (c : Nat → Prop) : Prop := ∀ i j, hw (g i) j = true ↔ hw (f i) j = true ∨ (j = e ∧ c i)
theorem SR_refl {f : Nat → Int32} {e : Nat} : SR f f e (fun _ => False) := fun i j => ⟨Or.inl, fun h => h.elim id (fun h => h.2.elim)⟩
theorem SR_congr {f g : Nat → Int32} {e : Nat} {c c' : Nat → Prop} (h : SR f g e c) (hc : ∀ i, c i ↔ c' i) : SR f g e c' := fun i j => by rw [h i j, hc i]
theorem SR_step {f g : Nat → Int32} {e k : Nat} {c : Nat → Prop} {p : Prop} {x : Int32} (h : SR f g e c) (hx : ∀ j, hw x j = true ↔ hw (g k) j = true ∨ (j = e ∧ p)) : SR f (upd g k x) e (fun i => c i ∨ (i = k ∧ p)) := by
  intro i j
  rw [ru]; split
  · next ei =>
    rw [hx j, ← ei, h i j]
    constructor
    · rintro ((h | ⟨h1, h2⟩) | ⟨h1, h2⟩)
      · exact Or.inl h
      · exact Or.inr ⟨h1, Or.inl h2⟩
      · exact Or.inr ⟨h1, Or.inr ⟨rfl, h2⟩⟩
    · rintro (h | ⟨h1, h2 | h2⟩)
      · exact Or.inl (Or.inl h)
      · exact Or.inl (Or.inr ⟨h1, h2⟩)
      · exact Or.inr ⟨h1, h2.2⟩
  · next ei =>
    rw [h i j]
    constructor
    · rintro (h | ⟨h1, h2⟩)
      · exact Or.inl h
      · exact Or.inr ⟨h1, Or.inl h2⟩
    · rintro (h | ⟨h1, h2 | h2⟩)
      · exact Or.inl h
      · exact Or.inr ⟨h1, h2⟩
      · exact absurd h2.1 ei
theorem or_bit {e : Nat} (he : e < 24) (g : Int32) (j : Nat) : hw (g ||| (ix 1 <<< (ix e &&& 31))) j = true ↔ hw g j = true ∨ (j = e ∧ True) := by
  rw [hw_or, hw_one he, Bool.or_eq_true, decide_eq_true_eq]; simp
theorem or_none {e : Nat} {p : Prop} (hp : ¬ p) (g : Int32) (j : Nat) : hw (g ||| ix 0) j = true ↔ hw g j = true ∨ (j = e ∧ p) := by
  have : hw (ix 0) j = false := hw_0 j
  rw [hw_or, this, Bool.or_false]; exact ⟨Or.inl, fun h => h.elim id (fun h => absurd h.2 hp)⟩
theorem or_some {e : Nat} {p : Prop} (hp : p) (he : e < 24) (g : Int32) (j : Nat) : hw (g ||| (ix 1 <<< (ix e &&& 31))) j = true ↔ hw g j = true ∨ (j = e ∧ p) := by
  rw [or_bit he]; exact ⟨fun h => h.imp id (fun h => ⟨h.1, hp⟩), fun h => h.imp id (fun h => ⟨h.1, trivial⟩)⟩
theorem s_M_mark {z : Sta} {K : Sta → Prop} {b w e : Nat} {v : Int32} {p : Prop} (hb1 : b < 16) (hw1 : w < 6) (he : e < 24) (hv : isb v p) (h : ∀ x, (∀ j, hw x j = true ↔ hw (z.2.1 22 (6 * b + w)) j = true ∨ (j = e ∧ p)) → K (zA z 22 (upd (z.2.1 22) (6 * b + w) x))) : wp_M_mark (ix b) (ix w) (ix e) v z K := by
  simp (disch := omega) only [wp_M_mark, pj_M_mark_24, forall_eq, l0, l1, l2, l3, l4, l5, l6, l15, l16, l24, l30, l99, l100, l200, l385, lm1, ix_ne, ne_ix, ix_nat, vp_ix, ix_inj, ix_le, ix_lt, ix_add, ix_mul, ix_sub, nar0', nar1', or00, or01, or10, or11, rI, rIA, rIL, rA, rAI, rAL, rL, rLI, rLA, ru, ruL, reduceIte, Nat.reduceEqDiff, true_or, or_true, true_and, and_true, false_or, or_false, not_true_eq_false, not_false_eq_true, false_implies, true_implies, implies_true, i10, i01]
  refine ⟨by omega, fun h0 => ⟨by omega, h _ (or_none ((isb_z hv).1 h0) _)⟩, fun h0 => ⟨by omega, h _ (or_some (isb_n hv h0) he _)⟩⟩
def FBm (n : Nat) (E : Nat → Nat → Prop) (Rc Ch Lv : Nat → Prop) (Y : Nat → Prop) (c : Nat) : Prop := Lv c ∨ ((0 < c ∧ ∀ a, a < n → Rc a → E a c → Y a) ∧ ¬ Ch c)
def FWm (n : Nat) (E : Nat → Nat → Prop) (Ch As : Nat → Prop) (Y : Nat → Prop) (c : Nat) : Prop := As c ∨ (((∃ d, d < n ∧ E c d) ∧ ∀ d, d < n → E c d → Y d) ∧ ¬ Ch c)
def FLm (n : Nat) (E : Nat → Nat → Prop) (Rc Ch As Bh Wt : Nat → Prop) (Y : Nat → Prop) (c : Nat) : Prop := (c = 0 → Wt c) ∧ ∀ a, a < n → Rc a → E a c → (EAm n E Wt Bh Ch a c ∨ (Y a ∧ ¬ As a))
def Gr (n : Nat) (Rc : Nat → Prop) (F : (Nat → Prop) → Nat → Prop) (X : Nat → Prop) : Prop := (∀ Y b, (∀ c, Y c → c < n ∧ Rc c ∧ F Y c) → Y b → X b) ∧ (∀ b, b < n → X b → Rc b ∧ F X b)
def PL (n : Nat) (E : Nat → Nat → Prop) (Rc Ch As Lv Bh Wt Lt : Nat → Prop) : Prop := Gr n Rc (FBm n E Rc Ch Lv) Bh ∧ Gr n Rc (FWm n E Ch As) Wt ∧ Gr n Rc (FLm n E Rc Ch As Bh Wt) Lt
def Sx (n : Nat) (E : Nat → Nat → Prop) (Rc As Bh Wt Lt : Nat → Prop) (b w : Nat) : Prop :=
  (w = 0 ∧ 0 < b ∧ ∀ a, a < n → Rc a → E a b → Bh a) ∨ (w = 1 ∧ Bh b) ∨ (w = 2 ∧ Wt b) ∨ (w = 3 ∧ (∃ c, c < n ∧ E b c) ∧ ∀ c, c < n → E b c → Wt c) ∨ (w = 4 ∧ Lt b) ∨ (w = 5 ∧ As b ∧ ¬ Lt b)
def Px (n : Nat) (E : Nat → Nat → Prop) (Rc Ch As Bh Wt Lt : Nat → Prop) (a b : Nat) : Prop := (Rc a ∧ E a b) ∧ (EAm n E Wt Bh Ch a b ∨ (Lt a ∧ ¬ As a)) ∧ ¬ Lt b
theorem s_ev0 {n : Nat} {E : Nat → Nat → Prop} {Rc Ch Lv X : Nat → Prop} {y : Sta} {K : Sta → Prop} {R : Int32 → Int32 → Int32 → Sta → Prop} {x2 : Int32} {b : Nat} (H : HM n E Rc y) (hb1 : b < n) (hX : ∀ b, b < n → isb (y.2.1 28 b) (X b)) (hC : ∀ b, b < n → isb (y.2.1 24 b) (Ch b)) (hL : ∀ b, b < n → isb (y.2.1 26 b) (Lv b))
    (h1 : FBm n E Rc Ch Lv X b → pj_M_settle_161 K R (ix 0) x2 (ix b) (ix 1) (ix 1) y) (h2 : ¬ FBm n E Rc Ch Lv X b → pj_M_settle_161 K R (ix 0) x2 (ix b) (ix 1) (ix 0) y) : pj_M_settle_74 K R (ix 0) x2 (ix b) (ix 1) y := by
  have hn := H.1
  simp (disch := omega) only [pj_M_settle_74, pj_M_settle_156, pj_M_settle_160, forall_eq, l0, l1, l2, l3, l4, l5, l6, l15, l16, l24, l30, l99, l100, l200, l385, lm1, ix_ne, ne_ix, ix_nat, vp_ix, ix_inj, ix_le, ix_lt, ix_add, ix_mul, ix_sub, nar0', nar1', or00, or01, or10, or11, rI, rIA, rIL, rA, rAI, rAL, rL, rLI, rLA, ru, ruL, reduceIte, Nat.reduceEqDiff, true_or, or_true, true_and, and_true, false_or, or_false, not_true_eq_false, not_false_eq_true, false_implies, true_implies, implies_true, i10, i01]
  refine ⟨by omega, fun h0 => h1 (Or.inl (isb_n (hL b hb1) h0)), fun h0 => s_M_thereBefore H hb1 hX (fun v hv => ⟨fun h3 => h2 (fun hh => ?_), fun h3 => ⟨by omega, fun h4 => h2 (fun hh => ?_), fun h4 => h1 (Or.inr ⟨isb_n hv h3, (isb_z (hC b hb1)).1 h4⟩)⟩⟩)⟩
  · exact hh.elim ((isb_z (hL b hb1)).1 h0) (fun hh => (isb_z hv).1 h3 hh.1)
  · exact hh.elim ((isb_z (hL b hb1)).1 h0) (fun hh => hh.2 (isb_n (hC b hb1) h4))
theorem s_ev1 {n : Nat} {E : Nat → Nat → Prop} {Rc Ch As X : Nat → Prop} {y : Sta} {K : Sta → Prop} {R : Int32 → Int32 → Int32 → Sta → Prop} {x2 : Int32} {b : Nat} (H : HM n E Rc y) (hb1 : b < n) (hX : ∀ b, b < n → isb (y.2.1 29 b) (X b)) (hC : ∀ b, b < n → isb (y.2.1 24 b) (Ch b)) (hA : ∀ b, b < n → isb (y.2.1 25 b) (As b))
    (h1 : FWm n E Ch As X b → pj_M_settle_161 K R (ix 1) x2 (ix b) (ix 1) (ix 1) y) (h2 : ¬ FWm n E Ch As X b → pj_M_settle_161 K R (ix 1) x2 (ix b) (ix 1) (ix 0) y) : pj_M_settle_74 K R (ix 1) x2 (ix b) (ix 1) y := by
  have hn := H.1
  simp (disch := omega) only [pj_M_settle_74, pj_M_settle_156, pj_M_settle_160, forall_eq, l0, l1, l2, l3, l4, l5, l6, l15, l16, l24, l30, l99, l100, l200, l385, lm1, ix_ne, ne_ix, ix_nat, vp_ix, ix_inj, ix_le, ix_lt, ix_add, ix_mul, ix_sub, nar0', nar1', or00, or01, or10, or11, rI, rIA, rIL, rA, rAI, rAL, rL, rLI, rLA, ru, ruL, reduceIte, Nat.reduceEqDiff, true_or, or_true, true_and, and_true, false_or, or_false, not_true_eq_false, not_false_eq_true, false_implies, true_implies, implies_true, i10, i01]
  refine ⟨by omega, fun h0 => h1 (Or.inl (isb_n (hA b hb1) h0)), fun h0 => s_M_wantedBehind H hb1 hX (fun v hv => ⟨fun h3 => h2 (fun hh => ?_), fun h3 => ⟨by omega, fun h4 => h2 (fun hh => ?_), fun h4 => h1 (Or.inr ⟨isb_n hv h3, (isb_z (hC b hb1)).1 h4⟩)⟩⟩)⟩
  · exact hh.elim ((isb_z (hA b hb1)).1 h0) (fun hh => (isb_z hv).1 h3 hh.1)
  · exact hh.elim ((isb_z (hA b hb1)).1 h0) (fun hh => hh.2 (isb_n (hC b hb1) h4))
theorem s_ev2 {n : Nat} {E : Nat → Nat → Prop} {Rc Ch As Bh Wt X : Nat → Prop} {y : Sta} {K : Sta → Prop} {R : Int32 → Int32 → Int32 → Sta → Prop} {x2 : Int32} {b : Nat} (H : HM n E Rc y) (hb1 : b < n) (hX : ∀ b, b < n → isb (y.2.1 31 b) (X b)) (hC : ∀ b, b < n → isb (y.2.1 24 b) (Ch b)) (hA : ∀ b, b < n → isb (y.2.1 25 b) (As b)) (hB : ∀ b, b < n → isb (y.2.1 28 b) (Bh b)) (hW : ∀ b, b < n → isb (y.2.1 29 b) (Wt b))
    (h1 : FLm n E Rc Ch As Bh Wt X b → pj_M_settle_161 K R (ix 2) x2 (ix b) (ix 1) (ix 1) y) (h2 : ¬ FLm n E Rc Ch As Bh Wt X b → pj_M_settle_161 K R (ix 2) x2 (ix b) (ix 1) (ix 0) y) : pj_M_settle_74 K R (ix 2) x2 (ix b) (ix 1) y := by
  have hn := H.1
  simp (disch := omega) only [pj_M_settle_74, pj_M_settle_156, pj_M_settle_160, forall_eq, l0, l1, l2, l3, l4, l5, l6, l15, l16, l24, l30, l99, l100, l200, l385, lm1, ix_ne, ne_ix, ix_nat, vp_ix, ix_inj, ix_le, ix_lt, ix_add, ix_mul, ix_sub, nar0', nar1', or00, or01, or10, or11, rI, rIA, rIL, rA, rAI, rAL, rL, rLI, rLA, ru, ruL, reduceIte, Nat.reduceEqDiff, true_or, or_true, true_and, and_true, false_or, or_false, not_true_eq_false, not_false_eq_true, false_implies, true_implies, implies_true, i10, i01]
  exact s_M_lateBefore H hb1 hW hB hC hX hA (fun v hv => ⟨fun h3 => h2 ((isb_z hv).1 h3), fun h3 => h1 (isb_n hv h3)⟩)
theorem cpM_fr {z y : Sta} {I A L : List Nat} (h : fr I A L z y) (h16 : 16 ∉ A) (b e : Nat) : cpM y b e = cpM z b e := by
  funext k; simp only [cpM, h.2.1 16 h16]
theorem gvM_fr {z y : Sta} {I A L : List Nat} (h : fr I A L z y) (h16 : 16 ∉ A) (h18 : 18 ∉ A) (h20 : 20 ∉ A) (b e : Nat) : gvM y b e = gvM z b e := by
  funext k; simp only [gvM, h.2.1 16 h16, h.2.1 18 h18, h.2.1 20 h20]
def Chm (z : Sta) (sz : Nat → Nat) (e b : Nat) : Prop := (lk (cpM z b e) (gvM z b e) (sz b)).1
def Asm (z : Sta) (sz : Nat → Nat) (e b : Nat) : Prop := (lk (cpM z b e) (gvM z b e) (sz b)).2.1
def Lvm (z : Sta) (sz : Nat → Nat) (e b : Nat) : Prop := (lk (cpM z b e) (gvM z b e) (sz b)).2.2
theorem s_M_plansW {n : Nat} {E : Nat → Nat → Prop} {Rc Ch As Bh Wt Lt : Nat → Prop} {z : Sta} {K : Sta → Prop} {e : Nat} (H : HM n E Rc z) (he : e < 24)
    (hB : ∀ b, b < n → isb (z.2.1 28 b) (Bh b)) (hW : ∀ b, b < n → isb (z.2.1 29 b) (Wt b)) (hL : ∀ b, b < n → isb (z.2.1 31 b) (Lt b)) (hC : ∀ b, b < n → isb (z.2.1 24 b) (Ch b)) (hA : ∀ b, b < n → isb (z.2.1 25 b) (As b))
    (hK : ∀ y, fr [12] [22, 23] [] z y → SR (z.2.1 22) (y.2.1 22) e (fun i => ∃ b, b < n ∧ Rc b ∧ ∃ w, w < 6 ∧ i = 6 * b + w ∧ Sx n E Rc As Bh Wt Lt b w) →
      SR (z.2.1 23) (y.2.1 23) e (fun i => (∃ b, b < n ∧ Rc b ∧ ∃ a, a < n ∧ i = 16 * a + b ∧ Px n E Rc Ch As Bh Wt Lt a b) ∨ (i = 256 ∧ Wt 0 ∧ ¬ Lt 0)) →
      (∀ j, hw (y.1 12) j = true ↔ hw (z.1 12) j = true ∨ (j = e ∧ ∃ b, b < n ∧ Rc b ∧ As b ∧ ¬ Lt b)) → K y) : lp_M_plans_63 K (n + 1) (ix e) (ix 0) (ix 0) z := by
  have hn := H.1
  have hn0 := H.2.1
  have hN := H.2.2.1
  have hr := H.2.2.2.2.2
  let IN : Sta → Prop := fun y => fr [] [22, 23] [] z y
  have HI : ∀ y, IN y → HM n E Rc y := fun y h => HM_fr H h (by decide) (by decide) (by decide)
  have bits : ∀ y, IN y → (∀ b, b < n → isb (y.2.1 28 b) (Bh b)) ∧ (∀ b, b < n → isb (y.2.1 29 b) (Wt b)) ∧ (∀ b, b < n → isb (y.2.1 31 b) (Lt b)) ∧ (∀ b, b < n → isb (y.2.1 24 b) (Ch b)) ∧ (∀ b, b < n → isb (y.2.1 25 b) (As b)) := by
    intro y h
    rw [h.2.1 28 (by decide), h.2.1 29 (by decide), h.2.1 31 (by decide), h.2.1 24 (by decide), h.2.1 25 (by decide)]
    exact ⟨hB, hW, hL, hC, hA⟩
  have puts : ∀ (R : Int32 → Int32 → Int32 → Sta → Prop) (x2 : Int32) (b : Nat) (c0 : Nat → Prop), b < n → ∀ (k i : Nat) (y : Sta), i + k = n → IN y → SR (z.2.1 23) (y.2.1 23) e (fun t => c0 t ∨ ∃ a, a < i ∧ t = 16 * a + b ∧ Px n E Rc Ch As Bh Wt Lt a b) →
      (∀ y', IN y' → y'.2.1 22 = y.2.1 22 → SR (z.2.1 23) (y'.2.1 23) e (fun t => c0 t ∨ ∃ a, a < n ∧ t = 16 * a + b ∧ Px n E Rc Ch As Bh Wt Lt a b) → R (ix e) x2 (ix (b + 1)) y') →
      lp_M_plans_195 K R (k + 1) (ix e) x2 (ix b) (ix i) y := by
    intro R x2 b c0 hb1 k
    induction k with
    | zero =>
      intro i y hik hI hS hR
      have hN' : y.1 8 = ix n := (hI.1 8 (by decide)).trans hN
      rw [lp_M_plans_195]
      simp (disch := omega) only [hN', pj_M_plans_261, forall_eq, l0, l1, l2, l3, l4, l5, l6, l15, l16, l24, l30, l99, l100, l200, l385, lm1, ix_ne, ne_ix, ix_nat, vp_ix, ix_inj, ix_le, ix_lt, ix_add, ix_mul, ix_sub, nar0', nar1', or00, or01, or10, or11, rI, rIA, rIL, rA, rAI, rAL, rL, rLI, rLA, ru, ruL, reduceIte, Nat.reduceEqDiff, true_or, or_true, true_and, and_true, false_or, or_false, not_true_eq_false, not_false_eq_true, false_implies, true_implies, implies_true, i10, i01]
      have : i = n := by omega
      subst this
      exact ⟨fun _ => hR y hI rfl hS, fun h => absurd (by omega) h⟩
    | succ k ih =>
      intro i y hik hI hS hR
      have hN' : y.1 8 = ix n := (hI.1 8 (by decide)).trans hN
      obtain ⟨b1, b2, b3, b4, b5⟩ := bits y hI
      have nxt : ∀ (p : Prop) (x : Int32), (p ↔ Px n E Rc Ch As Bh Wt Lt i b) → (∀ j, hw x j = true ↔ hw (y.2.1 23 (16 * i + b)) j = true ∨ (j = e ∧ p)) → lp_M_plans_195 K R (k + 1) (ix e) x2 (ix b) (ix (i + 1)) (zA y 23 (upd (y.2.1 23) (16 * i + b) x)) := by
        intro p x hp hx
        refine ih (i + 1) _ (by omega) (fr_A hI (by decide) _) ?_ (fun y' h1 h2 h3 => hR y' h1 h2 h3)
        rw [rA, if_pos rfl]
        refine SR_congr (SR_step hS hx) (fun t => ?_)
        constructor
        · rintro ((h | ⟨a, ha, h1, h2⟩) | ⟨h1, h2⟩)
          · exact Or.inl h
          · exact Or.inr ⟨a, by omega, h1, h2⟩
          · exact Or.inr ⟨i, by omega, h1, hp.1 h2⟩
        · rintro (h | ⟨a, ha, h1, h2⟩)
          · exact Or.inl (Or.inl h)
          · rcases Nat.lt_or_ge a i with e1 | e1
            · exact Or.inl (Or.inr ⟨a, e1, h1, h2⟩)
            · have : a = i := by omega
              subst this; exact Or.inr ⟨h1, hp.2 h2⟩
      rw [lp_M_plans_195]
      simp (disch := omega) only [hN', pj_M_plans_252, pj_M_plans_253, forall_eq, l0, l1, l2, l3, l4, l5, l6, l15, l16, l24, l30, l99, l100, l200, l385, lm1, ix_ne, ne_ix, ix_nat, vp_ix, ix_inj, ix_le, ix_lt, ix_add, ix_mul, ix_sub, nar0', nar1', or00, or01, or10, or11, rI, rIA, rIL, rA, rAI, rAL, rL, rLI, rLA, ru, ruL, reduceIte, Nat.reduceEqDiff, true_or, or_true, true_and, and_true, false_or, or_false, not_true_eq_false, not_false_eq_true, false_implies, true_implies, implies_true, i10, i01]
      refine ⟨fun h => absurd h (by omega), fun _ => ⟨by omega, s_M_edge' (HI y hI) (by omega) hb1 (fun v hv => ⟨fun h0 => ⟨by omega, nxt False _ ⟨fun h => h.elim, fun h => (isb_z hv).1 h0 h.1⟩ (or_none (fun h => h) _)⟩, fun h0 => s_M_laterOn (HI y hI) (by omega) hb1 b2 b1 b4 b3 b5 (fun v2 hv2 => ⟨fun h2 => ⟨by omega, nxt False _ ⟨fun h => h.elim, fun h => (isb_z hv2).1 h2 h.2.1⟩ (or_none (fun h => h) _)⟩, fun h2 => ⟨by omega, fun h3 => ⟨by omega, nxt False _ ⟨fun h => h.elim, fun h => h.2.2 (isb_n (b3 b hb1) h3)⟩ (or_none (fun h => h) _)⟩, fun h3 => ⟨by omega, nxt True _ ⟨fun _ => ⟨isb_n hv h0, isb_n hv2 h2, (isb_z (b3 b hb1)).1 h3⟩, fun _ => trivial⟩ (or_some trivial he _)⟩⟩⟩)⟩)⟩⟩
  have loop : ∀ (k i : Nat) (x2 : Int32) (y : Sta), i + k = n → IN y → isb x2 (∃ b, b < i ∧ Rc b ∧ As b ∧ ¬ Lt b) → SR (z.2.1 22) (y.2.1 22) e (fun t => ∃ b, b < i ∧ Rc b ∧ ∃ w, w < 6 ∧ t = 6 * b + w ∧ Sx n E Rc As Bh Wt Lt b w) →
      SR (z.2.1 23) (y.2.1 23) e (fun t => ∃ b, b < i ∧ Rc b ∧ ∃ a, a < n ∧ t = 16 * a + b ∧ Px n E Rc Ch As Bh Wt Lt a b) → lp_M_plans_63 K (k + 1) (ix e) x2 (ix i) y := by
    intro k
    induction k with
    | zero =>
      intro i x2 y hik hI hx h22 h23
      have hN' : y.1 8 = ix n := (hI.1 8 (by decide)).trans hN
      have h12 : y.1 12 = z.1 12 := hI.1 12 (by decide)
      obtain ⟨b1, b2, b3, b4, b5⟩ := bits y hI
      have : i = n := by omega
      subst this
      have fin : ∀ (x : Int32) (p : Prop), (p ↔ Wt 0 ∧ ¬ Lt 0) → (∀ j, hw x j = true ↔ hw (y.2.1 23 256) j = true ∨ (j = e ∧ p)) → ∀ m, (∀ j, hw m j = true ↔ hw (z.1 12) j = true ∨ (j = e ∧ ∃ b, b < i ∧ Rc b ∧ As b ∧ ¬ Lt b)) → K (zI (zA y 23 (upd (y.2.1 23) 256 x)) 12 m) := by
        intro x p hp hx m hm
        refine hK _ (fr_I (fr_A (fr_mono hI (by simp) (by simp) (by simp)) (by decide) _) (by decide) _) h22 ?_ hm
        show SR (z.2.1 23) (upd (y.2.1 23) 256 x) e _
        refine SR_congr (SR_step h23 hx) (fun t => ?_)
        rw [hp]
      have l256 : (256 : Int32) = ix 256 := rfl
      rw [lp_M_plans_63]
      simp (disch := omega) only [hN', l256, pj_M_plans_300, pj_M_plans_301, pj_M_plans_319, h12, forall_eq, l0, l1, l2, l3, l4, l5, l6, l15, l16, l24, l30, l99, l100, l200, l385, lm1, ix_ne, ne_ix, ix_nat, vp_ix, ix_inj, ix_le, ix_lt, ix_add, ix_mul, ix_sub, nar0', nar1', or00, or01, or10, or11, rI, rIA, rIL, rA, rAI, rAL, rL, rLI, rLA, ru, ruL, reduceIte, Nat.reduceEqDiff, true_or, or_true, true_and, and_true, false_or, or_false, not_true_eq_false, not_false_eq_true, false_implies, true_implies, implies_true, i10, i01]
      have fin2 : ∀ (x : Int32) (p : Prop), (p ↔ Wt 0 ∧ ¬ Lt 0) → (∀ j, hw x j = true ↔ hw (y.2.1 23 256) j = true ∨ (j = e ∧ p)) → (x2 = ix 0 → K (zI (zA y 23 (upd (y.2.1 23) 256 x)) 12 (y.1 12 ||| ix 0))) ∧ (¬ x2 = ix 0 → K (zI (zA y 23 (upd (y.2.1 23) 256 x)) 12 (y.1 12 ||| ix 1 <<< (ix e &&& 31)))) := by
        intro x p hp hx
        rw [h12]
        exact ⟨fun h0 => fin x p hp hx _ (or_none ((isb_z ‹isb x2 _›).1 h0) _), fun h0 => fin x p hp hx _ (or_some (isb_n ‹isb x2 _› h0) he _)⟩
      refine ⟨fun _ => ⟨by omega, s_M_laterOnm hn (b := 0) hn0 b2 (fun v hv => ⟨fun h0 => ⟨by omega, fin2 _ False ⟨fun h => h.elim, fun h => (isb_z hv).1 h0 h.1⟩ (or_none (fun h => h) _)⟩, fun h0 => ⟨by omega, fun h3 => ⟨by omega, fin2 _ False ⟨fun h => h.elim, fun h => h.2 (isb_n (b3 0 hn0) h3)⟩ (or_none (fun h => h) _)⟩, fun h3 => ⟨by omega, fin2 _ True ⟨fun _ => ⟨isb_n hv h0, (isb_z (b3 0 hn0)).1 h3⟩, fun _ => trivial⟩ (or_some trivial he _)⟩⟩⟩)⟩, fun h => absurd (by omega) h⟩
    | succ k ih =>
      intro i x2 y hik hI hx h22 h23
      have hN' : y.1 8 = ix n := (hI.1 8 (by decide)).trans hN
      have h21 : y.2.1 21 = z.2.1 21 := hI.2.1 21 (by decide)
      obtain ⟨b1, b2, b3, b4, b5⟩ := bits y hI
      have ri := hr i (by omega)
      have reached : Rc i → ∀ (t : Int32), isb t (As i ∧ ¬ Lt i) → pj_M_plans_103 K (fun x1 x2 x3 z => lp_M_plans_63 K (k + 1) x1 x2 x3 z) (ix e) x2 (ix i) t y := by
        intro hri t ht
        rw [pj_M_plans_103]
        have nx3 : ∀ {w : Nat} {c : Nat → Prop} {p : Prop} {y1 : Sta} {x : Int32}, IN y1 → SR (z.2.1 22) (y1.2.1 22) e c → (∀ j, hw x j = true ↔ hw (y1.2.1 22 (6 * i + w)) j = true ∨ (j = e ∧ p)) → y1.2.1 23 = y.2.1 23 → IN (zA y1 22 (upd (y1.2.1 22) (6 * i + w) x)) ∧ SR (z.2.1 22) ((zA y1 22 (upd (y1.2.1 22) (6 * i + w) x)).2.1 22) e (fun s => c s ∨ (s = 6 * i + w ∧ p)) ∧ (zA y1 22 (upd (y1.2.1 22) (6 * i + w) x)).2.1 23 = y.2.1 23 := by
          intro w c p y1 x h1 h2 h3 h4
          exact ⟨fr_A h1 (by decide) _, SR_step h2 h3, h4⟩
        refine s_M_thereBefore (HI y hI) (by omega) b1 (fun v0 hv0 => s_M_mark (w := 0) (by omega) (by omega) he hv0 (fun x0 hx0 => ?_))
        obtain ⟨I0, S0, P0⟩ := nx3 hI h22 hx0 rfl
        generalize zA y 22 (upd (y.2.1 22) (6 * i + 0) x0) = y0 at *
        have c0 := bits y0 I0
        simp (disch := omega) only [forall_eq, l0, l1, l2, l3, l4, l5, l6, l15, l16, l24, l30, l99, l100, l200, l385, lm1, ix_ne, ne_ix, ix_nat, vp_ix, ix_inj, ix_le, ix_lt, ix_add, ix_mul, ix_sub, nar0', nar1', or00, or01, or10, or11, rI, rIA, rIL, rA, rAI, rAL, rL, rLI, rLA, ru, ruL, reduceIte, Nat.reduceEqDiff, true_or, or_true, true_and, and_true, false_or, or_false, not_true_eq_false, not_false_eq_true, false_implies, true_implies, implies_true, i10, i01]
        refine ⟨by omega, s_M_mark (w := 1) (by omega) (by omega) he (c0.1 i (by omega)) (fun x1 hx1 => ?_)⟩
        obtain ⟨I1, S1, P1⟩ := nx3 I0 S0 hx1 P0
        generalize zA y0 22 (upd (y0.2.1 22) (6 * i + 1) x1) = y1 at *
        have c1 := bits y1 I1
        refine ⟨by omega, s_M_mark (w := 2) (by omega) (by omega) he (c1.2.1 i (by omega)) (fun x2' hx2 => ?_)⟩
        obtain ⟨I2, S2, P2⟩ := nx3 I1 S1 hx2 P1
        generalize zA y1 22 (upd (y1.2.1 22) (6 * i + 2) x2') = y2 at *
        have c2 := bits y2 I2
        refine s_M_wantedBehind (HI y2 I2) (by omega) c2.2.1 (fun v3 hv3 => s_M_mark (w := 3) (by omega) (by omega) he hv3 (fun x3 hx3 => ?_))
        obtain ⟨I3, S3, P3⟩ := nx3 I2 S2 hx3 P2
        generalize zA y2 22 (upd (y2.2.1 22) (6 * i + 3) x3) = y3 at *
        have c3 := bits y3 I3
        refine ⟨by omega, s_M_mark (w := 4) (by omega) (by omega) he (c3.2.2.1 i (by omega)) (fun x4 hx4 => ?_)⟩
        obtain ⟨I4, S4, P4⟩ := nx3 I3 S3 hx4 P3
        generalize zA y3 22 (upd (y3.2.1 22) (6 * i + 4) x4) = y4 at *
        refine s_M_mark (w := 5) (by omega) (by omega) he ht (fun x5 hx5 => ?_)
        obtain ⟨I5, S5, P5⟩ := nx3 I4 S4 hx5 P4
        generalize zA y4 22 (upd (y4.2.1 22) (6 * i + 5) x5) = y5 at *
        have S6 : SR (z.2.1 22) (y5.2.1 22) e (fun t => ∃ b, b < i + 1 ∧ Rc b ∧ ∃ w, w < 6 ∧ t = 6 * b + w ∧ Sx n E Rc As Bh Wt Lt b w) := by
          refine SR_congr S5 (fun s => ?_)
          constructor
          · rintro ((((((⟨b, hb1, h⟩ | ⟨h1, h2⟩) | ⟨h1, h2⟩) | ⟨h1, h2⟩) | ⟨h1, h2⟩) | ⟨h1, h2⟩) | ⟨h1, h2⟩)
            · exact ⟨b, by omega, h⟩
            · exact ⟨i, by omega, hri, 0, by omega, h1, Or.inl ⟨rfl, h2⟩⟩
            · exact ⟨i, by omega, hri, 1, by omega, h1, Or.inr (Or.inl ⟨rfl, h2⟩)⟩
            · exact ⟨i, by omega, hri, 2, by omega, h1, Or.inr (Or.inr (Or.inl ⟨rfl, h2⟩))⟩
            · exact ⟨i, by omega, hri, 3, by omega, h1, Or.inr (Or.inr (Or.inr (Or.inl ⟨rfl, h2⟩)))⟩
            · exact ⟨i, by omega, hri, 4, by omega, h1, Or.inr (Or.inr (Or.inr (Or.inr (Or.inl ⟨rfl, h2⟩))))⟩
            · exact ⟨i, by omega, hri, 5, by omega, h1, Or.inr (Or.inr (Or.inr (Or.inr (Or.inr ⟨rfl, h2⟩))))⟩
          · rintro ⟨b, hb1, hrb, w, hw1, hs, hSx⟩
            rcases Nat.lt_or_ge b i with e1 | e1
            · exact Or.inl (Or.inl (Or.inl (Or.inl (Or.inl (Or.inl ⟨b, e1, hrb, w, hw1, hs, hSx⟩)))))
            · have : b = i := by omega
              subst this
              rcases hSx with ⟨e2, h⟩ | ⟨e2, h⟩ | ⟨e2, h⟩ | ⟨e2, h⟩ | ⟨e2, h⟩ | ⟨e2, h⟩ <;> subst e2
              · exact Or.inl (Or.inl (Or.inl (Or.inl (Or.inl (Or.inr ⟨hs, h⟩)))))
              · exact Or.inl (Or.inl (Or.inl (Or.inl (Or.inr ⟨hs, h⟩))))
              · exact Or.inl (Or.inl (Or.inl (Or.inr ⟨hs, h⟩)))
              · exact Or.inl (Or.inl (Or.inr ⟨hs, h⟩))
              · exact Or.inl (Or.inr ⟨hs, h⟩)
              · exact Or.inr ⟨hs, h⟩
        have fin : ∀ x, isb x (∃ b, b < i + 1 ∧ Rc b ∧ As b ∧ ¬ Lt b) → pj_M_plans_191 K (fun x1 x2 x3 z => lp_M_plans_63 K (k + 1) x1 x2 x3 z) (ix e) (ix i) x y5 := by
          intro x hx
          rw [pj_M_plans_191]
          refine ⟨n + 1, ?_⟩
          rw [l0]
          refine puts _ x i (fun t => ∃ b, b < i ∧ Rc b ∧ ∃ a, a < n ∧ t = 16 * a + b ∧ Px n E Rc Ch As Bh Wt Lt a b) (by omega) n 0 y5 (by omega) I5 ?_ (fun y' h1 h2 h3 => ih (i + 1) x y' (by omega) h1 hx ?_ ?_)
          · rw [P5]; exact SR_congr h23 (fun s => ⟨Or.inl, fun h => h.elim id (fun ⟨a, ha, _⟩ => by omega)⟩)
          · rw [h2]; exact S6
          · refine SR_congr h3 (fun s => ?_)
            constructor
            · rintro (⟨b, hb1, h⟩ | ⟨a, ha, h1, h2⟩)
              · exact ⟨b, by omega, h⟩
              · exact ⟨i, by omega, hri, a, ha, h1, h2⟩
            · rintro ⟨b, hb1, hrb, a, ha, hs, hp⟩
              rcases Nat.lt_or_ge b i with e1 | e1
              · exact Or.inl ⟨b, e1, hrb, a, ha, hs, hp⟩
              · have : b = i := by omega
                subst this; exact Or.inr ⟨a, ha, hs, hp⟩
        have some1 : (∃ b, b < i + 1 ∧ Rc b ∧ As b ∧ ¬ Lt b) ↔ (∃ b, b < i ∧ Rc b ∧ As b ∧ ¬ Lt b) ∨ (As i ∧ ¬ Lt i) := by
          constructor
          · rintro ⟨b, hb1, hrb, h⟩
            rcases Nat.lt_or_ge b i with e1 | e1
            · exact Or.inl ⟨b, e1, hrb, h⟩
            · have : b = i := by omega
              subst this; exact Or.inr h
          · rintro (⟨b, hb1, h⟩ | h)
            · exact ⟨b, by omega, h⟩
            · exact ⟨i, by omega, hri, h⟩
        simp (disch := omega) only [pj_M_plans_186, forall_eq, l0, l1, l2, l3, l4, l5, l6, l15, l16, l24, l30, l99, l100, l200, l385, lm1, ix_ne, ne_ix, ix_nat, vp_ix, ix_inj, ix_le, ix_lt, ix_add, ix_mul, ix_sub, nar0', nar1', or00, or01, or10, or11, rI, rIA, rIL, rA, rAI, rAL, rL, rLI, rLA, ru, ruL, reduceIte, Nat.reduceEqDiff, true_or, or_true, true_and, and_true, false_or, or_false, not_true_eq_false, not_false_eq_true, false_implies, true_implies, implies_true, i10, i01]
        refine ⟨fun h0 => fin _ (Or.inl ⟨rfl, some1.2 (Or.inl (isb_n hx h0))⟩), fun h0 => ⟨fun h3 => fin _ (Or.inr ⟨rfl, fun hh => ?_⟩), fun h3 => fin _ (Or.inl ⟨rfl, some1.2 (Or.inr (isb_n ht h3))⟩)⟩⟩
        exact (some1.1 hh).elim ((isb_z hx).1 h0) ((isb_z ht).1 h3)
      rw [lp_M_plans_63]
      simp (disch := omega) only [hN', h21, pj_M_plans_102, pj_M_plans_261, forall_eq, l0, l1, l2, l3, l4, l5, l6, l15, l16, l24, l30, l99, l100, l200, l385, lm1, ix_ne, ne_ix, ix_nat, vp_ix, ix_inj, ix_le, ix_lt, ix_add, ix_mul, ix_sub, nar0', nar1', or00, or01, or10, or11, rI, rIA, rIL, rA, rAI, rAL, rL, rLI, rLA, ru, ruL, reduceIte, Nat.reduceEqDiff, true_or, or_true, true_and, and_true, false_or, or_false, not_true_eq_false, not_false_eq_true, false_implies, true_implies, implies_true, i10, i01]
      refine ⟨fun h => absurd h (by omega), fun _ => ⟨by omega, fun h0 => ?_, fun h0 => ⟨by omega, fun h2 => reached (isb_n ri h0) _ (Or.inr ⟨rfl, fun hh => (isb_z (b5 i (by omega))).1 h2 hh.1⟩), fun h2 => ⟨by omega, fun h3 => reached (isb_n ri h0) _ (Or.inr ⟨rfl, fun hh => hh.2 (isb_n (b3 i (by omega)) h3)⟩), fun h3 => reached (isb_n ri h0) _ (Or.inl ⟨rfl, isb_n (b5 i (by omega)) h2, (isb_z (b3 i (by omega))).1 h3⟩)⟩⟩⟩⟩
      have hnr := (isb_z ri).1 h0
      have up : ∀ {p : Nat → Prop}, (∃ b, b < i + 1 ∧ Rc b ∧ p b) ↔ (∃ b, b < i ∧ Rc b ∧ p b) := by
        intro p
        constructor
        · rintro ⟨b, hb1, hrb, h⟩
          rcases Nat.lt_or_ge b i with e1 | e1
          · exact ⟨b, e1, hrb, h⟩
          · have : b = i := by omega
            subst this; exact absurd hrb hnr
        · rintro ⟨b, hb1, h⟩; exact ⟨b, by omega, h⟩
      exact ih (i + 1) x2 y (by omega) hI (isb_c hx up.symm) (SR_congr h22 fun s => up.symm) (SR_congr h23 fun s => up.symm)
  exact loop n 0 (ix 0) z (by omega) (fr_refl z) (Or.inr ⟨rfl, fun ⟨b, hb1, _⟩ => by omega⟩) (SR_congr SR_refl fun s => ⟨fun h => h.elim, fun ⟨b, hb1, _⟩ => by omega⟩) (SR_congr SR_refl fun s => ⟨fun h => h.elim, fun ⟨b, hb1, _⟩ => by omega⟩)
theorem s_M_plans {n : Nat} {E : Nat → Nat → Prop} {Rc : Nat → Prop} {z : Sta} {K : Sta → Prop} {e : Nat} {sz : Nat → Nat} (H : HM n E Rc z) (hcl : ∀ a c, Rc a → E a c → Rc c) (he : e < 24) (hsz : ∀ b, b < 16 → z.2.1 15 b = ix (sz b) ∧ sz b ≤ 5)
    (hK : ∀ y Bh Wt Lt, fr [12] [22, 23, 24, 25, 26, 28, 29, 31] [] z y → PL n E Rc (Chm z sz e) (Asm z sz e) (Lvm z sz e) Bh Wt Lt →
      SR (z.2.1 22) (y.2.1 22) e (fun i => ∃ b, b < n ∧ Rc b ∧ ∃ w, w < 6 ∧ i = 6 * b + w ∧ Sx n E Rc (Asm z sz e) Bh Wt Lt b w) →
      SR (z.2.1 23) (y.2.1 23) e (fun i => (∃ b, b < n ∧ Rc b ∧ ∃ a, a < n ∧ i = 16 * a + b ∧ Px n E Rc (Chm z sz e) (Asm z sz e) Bh Wt Lt a b) ∨ (i = 256 ∧ Wt 0 ∧ ¬ Lt 0)) →
      (∀ j, hw (y.1 12) j = true ↔ hw (z.1 12) j = true ∨ (j = e ∧ ∃ b, b < n ∧ Rc b ∧ Asm z sz e b ∧ ¬ Lt b)) → K y) : wp_M_plans (ix e) z K := by
  have hn := H.1
  let FA : List Nat := [24, 25, 26, 28, 29, 31]
  have settle3 : ∀ y, fr [] [24, 25, 26, 28, 29, 31] [] z y → (∀ b, b < 16 → isb (y.2.1 24 b) (Chm z sz e b) ∧ isb (y.2.1 25 b) (Asm z sz e b) ∧ isb (y.2.1 26 b) (Lvm z sz e b) ∧ y.2.1 28 b = ix 1 ∧ y.2.1 29 b = ix 1 ∧ y.2.1 31 b = ix 1) → lp_M_plans_43 K 4 (ix e) (ix 0) y := by
    intro y hfr hI
    have Hy : HM n E Rc y := HM_fr H hfr (by decide) (by decide) (by decide)
    rw [lp_M_plans_43]
    simp (disch := omega) only [forall_eq, l0, l1, l2, l3, l4, l5, l6, l15, l16, l24, l30, l99, l100, l200, l385, lm1, ix_ne, ne_ix, ix_nat, vp_ix, ix_inj, ix_le, ix_lt, ix_add, ix_mul, ix_sub, nar0', nar1', or00, or01, or10, or11, rI, rIA, rIL, rA, rAI, rAL, rL, rLI, rLA, ru, ruL, reduceIte, Nat.reduceEqDiff, true_or, or_true, true_and, and_true, false_or, or_false, not_true_eq_false, not_false_eq_true, false_implies, true_implies, implies_true, i10, i01]
    refine ⟨fun h => absurd h (by omega), fun _ => ?_⟩
    refine s_M_settle (F := FBm n E Rc (Chm z sz e) (Lvm z sz e)) (w := 0) (by omega) Hy (fun X Y b hb1 hrb hXY hF => ?_) (fun R x2 b y1 X hb1 hrb hfr1 hX => ?_) (fun b hb1 => (hI b hb1).2.2.2.1) (fun y1 Bh hfr1 hB hBo hBf => ?_)
    · exact hF.imp id (fun h => ⟨⟨h.1.1, fun a ha hra he => hXY a ha hra (h.1.2 a ha hra he)⟩, h.2⟩)
    · refine s_ev0 (HM_fr Hy hfr1 (by decide) (by decide) (by decide)) hb1 (fun b hb1 => hX b (by omega)) (fun b hb1 => ?_) (fun b hb1 => ?_)
      · rw [hfr1.2.1 24 (by decide)]; exact (hI b (by omega)).1
      · rw [hfr1.2.1 26 (by decide)]; exact (hI b (by omega)).2.2.1
    have hfr1 : fr [] [28] [] y y1 := hfr1
    have hB : ∀ b, b < 16 → isb (y1.2.1 28 b) (Bh b) := hB
    have H1 : HM n E Rc y1 := HM_fr Hy hfr1 (by decide) (by decide) (by decide)
    rw [lp_M_plans_43]
    simp (disch := omega) only [forall_eq, l0, l1, l2, l3, l4, l5, l6, l15, l16, l24, l30, l99, l100, l200, l385, lm1, ix_ne, ne_ix, ix_nat, vp_ix, ix_inj, ix_le, ix_lt, ix_add, ix_mul, ix_sub, nar0', nar1', or00, or01, or10, or11, rI, rIA, rIL, rA, rAI, rAL, rL, rLI, rLA, ru, ruL, reduceIte, Nat.reduceEqDiff, true_or, or_true, true_and, and_true, false_or, or_false, not_true_eq_false, not_false_eq_true, false_implies, true_implies, implies_true, i10, i01]
    refine ⟨fun h => absurd h (by omega), fun _ => ?_⟩
    refine s_M_settle (F := FWm n E (Chm z sz e) (Asm z sz e)) (w := 1) (by omega) H1 (fun X Y b hb1 hrb hXY hF => ?_) (fun R x2 b y2 X hb1 hrb hfr2 hX => ?_) (fun b hb1 => ?_) (fun y2 Wt hfr2 hW hWo hWf => ?_)
    · exact hF.imp id (fun h => ⟨⟨h.1.1, fun d hd he => hXY d hd (hcl b d hrb he) (h.1.2 d hd he)⟩, h.2⟩)
    · refine s_ev1 (HM_fr H1 hfr2 (by decide) (by decide) (by decide)) hb1 (fun b hb1 => hX b (by omega)) (fun b hb1 => ?_) (fun b hb1 => ?_)
      · rw [hfr2.2.1 24 (by decide), hfr1.2.1 24 (by decide)]; exact (hI b (by omega)).1
      · rw [hfr2.2.1 25 (by decide), hfr1.2.1 25 (by decide)]; exact (hI b (by omega)).2.1
    · show y1.2.1 29 b = ix 1
      rw [hfr1.2.1 29 (by decide)]; exact (hI b hb1).2.2.2.2.1
    have hfr2 : fr [] [29] [] y1 y2 := hfr2
    have hW : ∀ b, b < 16 → isb (y2.2.1 29 b) (Wt b) := hW
    have H2 : HM n E Rc y2 := HM_fr H1 hfr2 (by decide) (by decide) (by decide)
    rw [lp_M_plans_43]
    simp (disch := omega) only [forall_eq, l0, l1, l2, l3, l4, l5, l6, l15, l16, l24, l30, l99, l100, l200, l385, lm1, ix_ne, ne_ix, ix_nat, vp_ix, ix_inj, ix_le, ix_lt, ix_add, ix_mul, ix_sub, nar0', nar1', or00, or01, or10, or11, rI, rIA, rIL, rA, rAI, rAL, rL, rLI, rLA, ru, ruL, reduceIte, Nat.reduceEqDiff, true_or, or_true, true_and, and_true, false_or, or_false, not_true_eq_false, not_false_eq_true, false_implies, true_implies, implies_true, i10, i01]
    refine ⟨fun h => absurd h (by omega), fun _ => ?_⟩
    refine s_M_settle (F := FLm n E Rc (Chm z sz e) (Asm z sz e) Bh Wt) (w := 2) (by omega) H2 (fun X Y b hb1 hrb hXY hF => ?_) (fun R x2 b y3 X hb1 hrb hfr3 hX => ?_) (fun b hb1 => ?_) (fun y3 Lt hfr3 hL hLo hLf => ?_)
    · exact ⟨hF.1, fun a ha hra he => (hF.2 a ha hra he).imp id (fun h => ⟨hXY a ha hra h.1, h.2⟩)⟩
    · refine s_ev2 (HM_fr H2 hfr3 (by decide) (by decide) (by decide)) hb1 (fun b hb1 => hX b (by omega)) (fun b hb1 => ?_) (fun b hb1 => ?_) (fun b hb1 => ?_) (fun b hb1 => ?_)
      · rw [hfr3.2.1 24 (by decide), hfr2.2.1 24 (by decide), hfr1.2.1 24 (by decide)]; exact (hI b (by omega)).1
      · rw [hfr3.2.1 25 (by decide), hfr2.2.1 25 (by decide), hfr1.2.1 25 (by decide)]; exact (hI b (by omega)).2.1
      · rw [hfr3.2.1 28 (by decide), hfr2.2.1 28 (by decide)]; exact hB b (by omega)
      · rw [hfr3.2.1 29 (by decide)]; exact hW b (by omega)
    · show y2.2.1 31 b = ix 1
      rw [hfr2.2.1 31 (by decide), hfr1.2.1 31 (by decide)]; exact (hI b hb1).2.2.2.2.2
    have hfr3 : fr [] [31] [] y2 y3 := hfr3
    have hL : ∀ b, b < 16 → isb (y3.2.1 31 b) (Lt b) := hL
    have H3 : HM n E Rc y3 := HM_fr H2 hfr3 (by decide) (by decide) (by decide)
    have hfrz : fr [] [24, 25, 26, 28, 29, 31] [] z y3 := fr_tr (fr_tr (fr_tr hfr (fr_mono hfr1 (by simp) (by simp) (by simp))) (fr_mono hfr2 (by simp) (by simp) (by simp))) (fr_mono hfr3 (by simp) (by simp) (by simp))
    rw [lp_M_plans_43]
    simp (disch := omega) only [forall_eq, l0, l1, l2, l3, l4, l5, l6, l15, l16, l24, l30, l99, l100, l200, l385, lm1, ix_ne, ne_ix, ix_nat, vp_ix, ix_inj, ix_le, ix_lt, ix_add, ix_mul, ix_sub, nar0', nar1', or00, or01, or10, or11, rI, rIA, rIL, rA, rAI, rAL, rL, rLI, rLA, ru, ruL, reduceIte, Nat.reduceEqDiff, true_or, or_true, true_and, and_true, false_or, or_false, not_true_eq_false, not_false_eq_true, false_implies, true_implies, implies_true, i10, i01]
    refine ⟨fun _ => ⟨n + 1, ?_⟩, fun h => absurd (by omega) h⟩
    refine s_M_plansW (Ch := Chm z sz e) (As := Asm z sz e) (Bh := Bh) (Wt := Wt) (Lt := Lt) H3 he (fun b hb1 => ?_) (fun b hb1 => ?_) (fun b hb1 => hL b (by omega)) (fun b hb1 => ?_) (fun b hb1 => ?_) (fun y4 hfr4 h22 h23 h12 => ?_)
    · rw [hfr3.2.1 28 (by decide), hfr2.2.1 28 (by decide)]; exact hB b (by omega)
    · rw [hfr3.2.1 29 (by decide)]; exact hW b (by omega)
    · rw [hfr3.2.1 24 (by decide), hfr2.2.1 24 (by decide), hfr1.2.1 24 (by decide)]; exact (hI b (by omega)).1
    · rw [hfr3.2.1 25 (by decide), hfr2.2.1 25 (by decide), hfr1.2.1 25 (by decide)]; exact (hI b (by omega)).2.1
    · refine hK y4 Bh Wt Lt (fr_tr (fr_mono hfrz (by simp) (by simp) (by simp)) (fr_mono hfr4 (by simp) (by simp) (by simp))) ⟨⟨hBo, hBf⟩, ⟨hWo, hWf⟩, ⟨hLo, hLf⟩⟩ ?_ ?_ ?_
      · rw [← hfrz.2.1 22 (by decide)]; exact h22
      · rw [← hfrz.2.1 23 (by decide)]; exact h23
      · rw [← hfrz.1 12 (by decide)]; exact h12
  have loop : ∀ (k i : Nat) (y : Sta), i + k = 16 → fr [] [24, 25, 26, 28, 29, 31] [] z y → (∀ b, b < i → isb (y.2.1 24 b) (Chm z sz e b) ∧ isb (y.2.1 25 b) (Asm z sz e b) ∧ isb (y.2.1 26 b) (Lvm z sz e b) ∧ y.2.1 28 b = ix 1 ∧ y.2.1 29 b = ix 1 ∧ y.2.1 31 b = ix 1) → lp_M_plans_2 K (k + 1) (ix e) (ix i) y := by
    intro k
    induction k with
    | zero =>
      intro i y hik hfr hI
      rw [lp_M_plans_2]
      simp (disch := omega) only [forall_eq, l0, l1, l2, l3, l4, l5, l6, l15, l16, l24, l30, l99, l100, l200, l385, lm1, ix_ne, ne_ix, ix_nat, vp_ix, ix_inj, ix_le, ix_lt, ix_add, ix_mul, ix_sub, nar0', nar1', or00, or01, or10, or11, rI, rIA, rIL, rA, rAI, rAL, rL, rLI, rLA, ru, ruL, reduceIte, Nat.reduceEqDiff, true_or, or_true, true_and, and_true, false_or, or_false, not_true_eq_false, not_false_eq_true, false_implies, true_implies, implies_true, i10, i01]
      exact ⟨fun _ => ⟨4, settle3 y hfr (fun b hb1 => hI b (by omega))⟩, fun h => absurd (by omega) h⟩
    | succ k ih =>
      intro i y hik hfr hI
      rw [lp_M_plans_2]
      simp (disch := omega) only [forall_eq, l0, l1, l2, l3, l4, l5, l6, l15, l16, l24, l30, l99, l100, l200, l385, lm1, ix_ne, ne_ix, ix_nat, vp_ix, ix_inj, ix_le, ix_lt, ix_add, ix_mul, ix_sub, nar0', nar1', or00, or01, or10, or11, rI, rIA, rIL, rA, rAI, rAL, rL, rLI, rLA, ru, ruL, reduceIte, Nat.reduceEqDiff, true_or, or_true, true_and, and_true, false_or, or_false, not_true_eq_false, not_false_eq_true, false_implies, true_implies, implies_true, i10, i01]
      refine ⟨fun h => absurd h (by omega), fun _ => s_M_look (sz := sz i) (by omega) he ?_ (hsz i (by omega)).2 (fun y1 hfr1 hoff h24 h25 h26 => ⟨by omega, by omega, by omega, ?_⟩)⟩
      · rw [hfr.2.1 15 (by decide)]; exact (hsz i (by omega)).1
      · rw [cpM_fr hfr (by decide), gvM_fr hfr (by decide) (by decide) (by decide)] at h24 h25 h26
        refine ih (i + 1) _ (by omega) (fr_A (fr_A (fr_A (fr_tr hfr (fr_mono hfr1 (by simp) (by simp) (by simp))) (by decide) _) (by decide) _) (by decide) _) (fun b hb1 => ?_)
        have k28 := hfr1.2.1 28 (by decide)
        have k29 := hfr1.2.1 29 (by decide)
        have k31 := hfr1.2.1 31 (by decide)
        simp (disch := omega) only [forall_eq, l0, l1, l2, l3, l4, l5, l6, l15, l16, l24, l30, l99, l100, l200, l385, lm1, ix_ne, ne_ix, ix_nat, vp_ix, ix_inj, ix_le, ix_lt, ix_add, ix_mul, ix_sub, nar0', nar1', or00, or01, or10, or11, rI, rIA, rIL, rA, rAI, rAL, rL, rLI, rLA, ru, ruL, reduceIte, Nat.reduceEqDiff, true_or, or_true, true_and, and_true, false_or, or_false, not_true_eq_false, not_false_eq_true, false_implies, true_implies, implies_true, i10, i01]
        by_cases ebi : b = i
        · subst ebi
          refine ⟨h24, h25, h26, ?_, ?_, ?_⟩ <;> rw [if_pos rfl]
        · obtain ⟨o1, o2, o3⟩ := hoff b ebi
          rw [o1, o2, o3, if_neg ebi, if_neg ebi, if_neg ebi, k28, k29, k31]
          exact hI b (by omega)
  simp (disch := omega) only [wp_M_plans, forall_eq, l0, l1, l2, l3, l4, l5, l6, l15, l16, l24, l30, l99, l100, l200, l385, lm1, ix_ne, ne_ix, ix_nat, vp_ix, ix_inj, ix_le, ix_lt, ix_add, ix_mul, ix_sub, nar0', nar1', or00, or01, or10, or11, rI, rIA, rIL, rA, rAI, rAL, rL, rLI, rLA, ru, ruL, reduceIte, Nat.reduceEqDiff, true_or, or_true, true_and, and_true, false_or, or_false, not_true_eq_false, not_false_eq_true, false_implies, true_implies, implies_true, i10, i01]
  exact ⟨17, loop 16 0 z rfl (fr_refl z) (fun b hb1 => absurd hb1 (by omega))⟩
theorem s_M_bits {z : Sta} {K : Int32 → Sta → Prop} {v : Int32} (h : K (ix (cnt (fun j => hw v j) 24)) z) : wp_M_bits v z K := by
  have loop : ∀ (k i : Nat), i + k = 24 → lp_M_bits_4 K (k + 1) v (ix (cnt (fun j => hw v j) i)) (ix i) z := by
    intro k
    induction k with
    | zero =>
      intro i hik
      rw [lp_M_bits_4]
      simp (disch := omega) only [forall_eq, l0, l1, l2, l3, l4, l5, l6, l15, l16, l24, l30, l99, l100, l200, l385, lm1, ix_ne, ne_ix, ix_nat, vp_ix, ix_inj, ix_le, ix_lt, ix_add, ix_mul, ix_sub, nar0', nar1', or00, or01, or10, or11, rI, rIA, rIL, rA, rAI, rAL, rL, rLI, rLA, ru, ruL, reduceIte, Nat.reduceEqDiff, true_or, or_true, true_and, and_true, false_or, or_false, not_true_eq_false, not_false_eq_true, false_implies, true_implies, implies_true, i10, i01]
      have : i = 24 := by omega
      subst this
      exact ⟨fun _ => h, fun h => absurd (by omega) h⟩
    | succ k ih =>
      intro i hik
      rw [lp_M_bits_4]
      simp (disch := omega) only [forall_eq, l0, l1, l2, l3, l4, l5, l6, l15, l16, l24, l30, l99, l100, l200, l385, lm1, ix_ne, ne_ix, ix_nat, vp_ix, ix_inj, ix_le, ix_lt, ix_add, ix_mul, ix_sub, nar0', nar1', or00, or01, or10, or11, rI, rIA, rIL, rA, rAI, rAL, rL, rLI, rLA, ru, ruL, reduceIte, Nat.reduceEqDiff, true_or, or_true, true_and, and_true, false_or, or_false, not_true_eq_false, not_false_eq_true, false_implies, true_implies, implies_true, i10, i01]
      rw [sh32 (by omega)]
      refine ⟨fun h => absurd h (by omega), fun _ => ?_⟩
      have := ih (i + 1) (by omega)
      simp only [cnt] at this
      by_cases hv : hw v i = true
      · rw [if_pos hv] at this
        rw [if_pos hv, ix_add]; exact this
      · rw [if_neg hv] at this
        rw [if_neg hv, ix_add]; exact this
  simp (disch := omega) only [wp_M_bits, forall_eq, l0, l1, l2, l3, l4, l5, l6, l15, l16, l24, l30, l99, l100, l200, l385, lm1, ix_ne, ne_ix, ix_nat, vp_ix, ix_inj, ix_le, ix_lt, ix_add, ix_mul, ix_sub, nar0', nar1', or00, or01, or10, or11, rI, rIA, rIL, rA, rAI, rAL, rL, rLI, rLA, ru, ruL, reduceIte, Nat.reduceEqDiff, true_or, or_true, true_and, and_true, false_or, or_false, not_true_eq_false, not_false_eq_true, false_implies, true_implies, implies_true, i10, i01]
  exact ⟨25, loop 24 0 rfl⟩
theorem s_M_planE {n m : Nat} {E : Nat → Nat → Prop} {Rc : Nat → Prop} {z : Sta} {K : Int32 → Sta → Prop} {sz : Nat → Nat} (H : HM n E Rc z) (hcl : ∀ a c, Rc a → E a c → Rc c) (hm : m ≤ 24) (hM : z.1 9 = ix m) (hsz : ∀ b, b < 16 → z.2.1 15 b = ix (sz b) ∧ sz b ≤ 5)
    (h22 : ∀ t, t < 96 → z.2.1 22 t = ix 0) (h23 : ∀ t, t < 257 → z.2.1 23 t = ix 0) (h12 : z.1 12 = ix 0)
    (hK : ∀ (y : Sta) (Bh Wt Lt : Nat → Nat → Prop), fr [10, 11, 12] [22, 23, 24, 25, 26, 28, 29, 31] [] z y → y.1 10 = ix 1 → y.1 11 = z.1 11 + ix 1 → (∀ j, j < m → PL n E Rc (Chm z sz j) (Asm z sz j) (Lvm z sz j) (Bh j) (Wt j) (Lt j)) →
      (∀ t j, t < 96 → (hw (y.2.1 22 t) j = true ↔ j < m ∧ ∃ b, b < n ∧ Rc b ∧ ∃ w, w < 6 ∧ t = 6 * b + w ∧ Sx n E Rc (Asm z sz j) (Bh j) (Wt j) (Lt j) b w)) →
      (∀ t j, t < 257 → (hw (y.2.1 23 t) j = true ↔ j < m ∧ ((∃ b, b < n ∧ Rc b ∧ ∃ a, a < n ∧ t = 16 * a + b ∧ Px n E Rc (Chm z sz j) (Asm z sz j) (Bh j) (Wt j) (Lt j) a b) ∨ (t = 256 ∧ Wt j 0 ∧ ¬ Lt j 0)))) →
      (∀ j, hw (y.1 12) j = true ↔ j < m ∧ ∃ b, b < n ∧ Rc b ∧ Asm z sz j b ∧ ¬ Lt j b) → K (ix (cnt (fun j => hw (y.1 12) j) 24)) y) : lp_M_plan_85 K (m + 1) (ix 0) z := by
  have loop : ∀ (k i : Nat) (y : Sta) (Bh Wt Lt : Nat → Nat → Prop), i + k = m → fr [12] [22, 23, 24, 25, 26, 28, 29, 31] [] z y → (∀ j, j < i → PL n E Rc (Chm z sz j) (Asm z sz j) (Lvm z sz j) (Bh j) (Wt j) (Lt j)) →
      (∀ t j, t < 96 → (hw (y.2.1 22 t) j = true ↔ j < i ∧ ∃ b, b < n ∧ Rc b ∧ ∃ w, w < 6 ∧ t = 6 * b + w ∧ Sx n E Rc (Asm z sz j) (Bh j) (Wt j) (Lt j) b w)) →
      (∀ t j, t < 257 → (hw (y.2.1 23 t) j = true ↔ j < i ∧ ((∃ b, b < n ∧ Rc b ∧ ∃ a, a < n ∧ t = 16 * a + b ∧ Px n E Rc (Chm z sz j) (Asm z sz j) (Bh j) (Wt j) (Lt j) a b) ∨ (t = 256 ∧ Wt j 0 ∧ ¬ Lt j 0)))) →
      (∀ j, hw (y.1 12) j = true ↔ j < i ∧ ∃ b, b < n ∧ Rc b ∧ Asm z sz j b ∧ ¬ Lt j b) → lp_M_plan_85 K (k + 1) (ix i) y := by
    intro k
    induction k with
    | zero =>
      intro i y Bh Wt Lt hik hfr hP a22 a23 a12
      have hM' : y.1 9 = ix m := (hfr.1 9 (by decide)).trans hM
      have h11 : y.1 11 = z.1 11 := hfr.1 11 (by decide)
      have : i = m := by omega
      subst this
      rw [lp_M_plan_85]
      simp (disch := omega) only [hM', h11, forall_eq, l0, l1, l2, l3, l4, l5, l6, l15, l16, l24, l30, l99, l100, l200, l385, lm1, ix_ne, ne_ix, ix_nat, vp_ix, ix_inj, ix_le, ix_lt, ix_add, ix_mul, ix_sub, nar0', nar1', or00, or01, or10, or11, rI, rIA, rIL, rA, rAI, rAL, rL, rLI, rLA, ru, ruL, reduceIte, Nat.reduceEqDiff, true_or, or_true, true_and, and_true, false_or, or_false, not_true_eq_false, not_false_eq_true, false_implies, true_implies, implies_true, i10, i01]
      have hk := hK (zI (zI y 10 (ix 1)) 11 (z.1 11 + ix 1)) Bh Wt Lt (fr_I (fr_I (fr_mono hfr (by simp) (by simp) (by simp)) (by decide) _) (by decide) _) (by simp (disch := omega) only [forall_eq, l0, l1, l2, l3, l4, l5, l6, l15, l16, l24, l30, l99, l100, l200, l385, lm1, ix_ne, ne_ix, ix_nat, vp_ix, ix_inj, ix_le, ix_lt, ix_add, ix_mul, ix_sub, nar0', nar1', or00, or01, or10, or11, rI, rIA, rIL, rA, rAI, rAL, rL, rLI, rLA, ru, ruL, reduceIte, Nat.reduceEqDiff, true_or, or_true, true_and, and_true, false_or, or_false, not_true_eq_false, not_false_eq_true, false_implies, true_implies, implies_true, i10, i01]) (by simp (disch := omega) only [forall_eq, l0, l1, l2, l3, l4, l5, l6, l15, l16, l24, l30, l99, l100, l200, l385, lm1, ix_ne, ne_ix, ix_nat, vp_ix, ix_inj, ix_le, ix_lt, ix_add, ix_mul, ix_sub, nar0', nar1', or00, or01, or10, or11, rI, rIA, rIL, rA, rAI, rAL, rL, rLI, rLA, ru, ruL, reduceIte, Nat.reduceEqDiff, true_or, or_true, true_and, and_true, false_or, or_false, not_true_eq_false, not_false_eq_true, false_implies, true_implies, implies_true, i10, i01]) hP a22 a23
      have e12 : (zI (zI y 10 (ix 1)) 11 (z.1 11 + ix 1)).1 12 = y.1 12 := by
        simp (disch := omega) only [forall_eq, l0, l1, l2, l3, l4, l5, l6, l15, l16, l24, l30, l99, l100, l200, l385, lm1, ix_ne, ne_ix, ix_nat, vp_ix, ix_inj, ix_le, ix_lt, ix_add, ix_mul, ix_sub, nar0', nar1', or00, or01, or10, or11, rI, rIA, rIL, rA, rAI, rAL, rL, rLI, rLA, ru, ruL, reduceIte, Nat.reduceEqDiff, true_or, or_true, true_and, and_true, false_or, or_false, not_true_eq_false, not_false_eq_true, false_implies, true_implies, implies_true, i10, i01]
      rw [e12] at hk
      exact ⟨fun _ => s_M_bits (hk a12), fun h => absurd (by omega) h⟩
    | succ k ih =>
      intro i y Bh Wt Lt hik hfr hP a22 a23 a12
      have hM' : y.1 9 = ix m := (hfr.1 9 (by decide)).trans hM
      rw [lp_M_plan_85]
      simp (disch := omega) only [hM', forall_eq, l0, l1, l2, l3, l4, l5, l6, l15, l16, l24, l30, l99, l100, l200, l385, lm1, ix_ne, ne_ix, ix_nat, vp_ix, ix_inj, ix_le, ix_lt, ix_add, ix_mul, ix_sub, nar0', nar1', or00, or01, or10, or11, rI, rIA, rIL, rA, rAI, rAL, rL, rLI, rLA, ru, ruL, reduceIte, Nat.reduceEqDiff, true_or, or_true, true_and, and_true, false_or, or_false, not_true_eq_false, not_false_eq_true, false_implies, true_implies, implies_true, i10, i01]
      refine ⟨fun h => absurd h (by omega), fun _ => s_M_plans (sz := sz) (HM_fr H hfr (by decide) (by decide) (by decide)) hcl (by omega) (fun b hb1 => ?_) (fun y1 B1 W1 L1 hfr1 hP1 b22 b23 b12 => ?_)⟩
      · rw [hfr.2.1 15 (by decide)]; exact hsz b hb1
      · have eC : Chm y sz i = Chm z sz i := by
          funext b; simp only [Chm, cpM_fr hfr (by decide : 16 ∉ _), gvM_fr hfr (by decide : 16 ∉ _) (by decide) (by decide)]
        have eA : Asm y sz i = Asm z sz i := by
          funext b; simp only [Asm, cpM_fr hfr (by decide : 16 ∉ _), gvM_fr hfr (by decide : 16 ∉ _) (by decide) (by decide)]
        have eL : Lvm y sz i = Lvm z sz i := by
          funext b; simp only [Lvm, cpM_fr hfr (by decide : 16 ∉ _), gvM_fr hfr (by decide : 16 ∉ _) (by decide) (by decide)]
        rw [eC, eA, eL] at hP1
        rw [eA] at b22 b12
        rw [eC, eA] at b23
        refine ih (i + 1) y1 (fun j => if j = i then B1 else Bh j) (fun j => if j = i then W1 else Wt j) (fun j => if j = i then L1 else Lt j) (by omega) (fr_tr hfr hfr1) (fun j hj => ?_) (fun t j ht => ?_) (fun t j ht => ?_) (fun j => ?_)
        · by_cases ej : j = i
          · simp only [if_pos ej]; rw [ej]; exact hP1
          · simp only [if_neg ej]; exact hP j (by omega)
        · rw [b22 t j, a22 t j ht]
          by_cases ej : j = i
          · simp only [if_pos ej, ej]
            constructor
            · rintro (⟨h, _⟩ | ⟨_, h⟩)
              · omega
              · exact ⟨by omega, h⟩
            · rintro ⟨_, h⟩; exact Or.inr ⟨trivial, h⟩
          · simp only [if_neg ej]
            constructor
            · rintro (⟨h, h2⟩ | ⟨h, _⟩)
              · exact ⟨by omega, h2⟩
              · exact absurd h ej
            · rintro ⟨h, h2⟩; exact Or.inl ⟨by omega, h2⟩
        · rw [b23 t j, a23 t j ht]
          by_cases ej : j = i
          · simp only [if_pos ej, ej]
            constructor
            · rintro (⟨h, _⟩ | ⟨_, h⟩)
              · omega
              · exact ⟨by omega, h⟩
            · rintro ⟨_, h⟩; exact Or.inr ⟨trivial, h⟩
          · simp only [if_neg ej]
            constructor
            · rintro (⟨h, h2⟩ | ⟨h, _⟩)
              · exact ⟨by omega, h2⟩
              · exact absurd h ej
            · rintro ⟨h, h2⟩; exact Or.inl ⟨by omega, h2⟩
        · rw [b12 j, a12 j]
          by_cases ej : j = i
          · simp only [if_pos ej, ej]
            constructor
            · rintro (⟨h, _⟩ | ⟨_, h⟩)
              · omega
              · exact ⟨by omega, h⟩
            · rintro ⟨_, h⟩; exact Or.inr ⟨trivial, h⟩
          · simp only [if_neg ej]
            constructor
            · rintro (⟨h, h2⟩ | ⟨h, _⟩)
              · exact ⟨by omega, h2⟩
              · exact absurd h ej
            · rintro ⟨h, h2⟩; exact Or.inl ⟨by omega, h2⟩
  have z0 : ∀ j, hw (ix 0) j = true ↔ False := fun j => by
    have : hw (ix 0) j = false := hw_0 j
    rw [this]; simp
  refine loop m 0 z (fun _ _ => False) (fun _ _ => False) (fun _ _ => False) (by omega) (fr_refl z) (fun j hj => absurd hj (by omega)) (fun t j ht => ?_) (fun t j ht => ?_) (fun j => ?_)
  · rw [h22 t ht, z0]; exact ⟨fun h => h.elim, fun h => absurd h.1 (by omega)⟩
  · rw [h23 t ht, z0]; exact ⟨fun h => h.elim, fun h => absurd h.1 (by omega)⟩
  · rw [h12, z0]; exact ⟨fun h => h.elim, fun h => absurd h.1 (by omega)⟩
end
section
theorem Gr_eq {n : Nat} {Rc : Nat → Prop} {F G : (Nat → Prop) → Nat → Prop} {X Y : Nat → Prop} (hX : Gr n Rc F X) (hY : Gr n Rc G Y) (hF : ∀ Z b, b < n → Rc b → (F Z b ↔ G Z b))
    (hm : ∀ Z V b, b < n → Rc b → (∀ c, c < n → Rc c → Z c → V c) → F Z b → F V b) : ∀ b, b < n → (X b ↔ Y b) := by
  have hm' : ∀ Z V b, b < n → Rc b → (∀ c, c < n → Rc c → Z c → V c) → G Z b → G V b := fun Z V b hb1 hr h hg => (hF V b hb1 hr).1 (hm Z V b hb1 hr h ((hF Z b hb1 hr).2 hg))
  intro b hb1
  constructor
  · intro h
    refine hY.1 (fun c => c < n ∧ X c) b (fun c hc => ⟨hc.1, (hX.2 c hc.1 hc.2).1, ?_⟩) ⟨hb1, h⟩
    exact (hF _ c hc.1 (hX.2 c hc.1 hc.2).1).1 (hm X _ c hc.1 (hX.2 c hc.1 hc.2).1 (fun d hd _ hx => ⟨hd, hx⟩) (hX.2 c hc.1 hc.2).2)
  · intro h
    refine hX.1 (fun c => c < n ∧ Y c) b (fun c hc => ⟨hc.1, (hY.2 c hc.1 hc.2).1, ?_⟩) ⟨hb1, h⟩
    exact (hF _ c hc.1 (hY.2 c hc.1 hc.2).1).2 (hm' Y _ c hc.1 (hY.2 c hc.1 hc.2).1 (fun d hd _ hx => ⟨hd, hx⟩) (hY.2 c hc.1 hc.2).2)
theorem PL_eq {n : Nat} {E : Nat → Nat → Prop} {Rc Ch As Lv Bh Wt Lt Ch' As' Lv' Bh' Wt' Lt' : Nat → Prop} (hcl : ∀ a c, Rc a → E a c → Rc c) (h : PL n E Rc Ch As Lv Bh Wt Lt) (h' : PL n E Rc Ch' As' Lv' Bh' Wt' Lt') (hC : ∀ b, b < n → Rc b → (Ch b ↔ Ch' b)) (hA : ∀ b, b < n → Rc b → (As b ↔ As' b)) (hL : ∀ b, b < n → Rc b → (Lv b ↔ Lv' b)) :
    (∀ b, b < n → (Bh b ↔ Bh' b)) ∧ (∀ b, b < n → (Wt b ↔ Wt' b)) ∧ (∀ b, b < n → (Lt b ↔ Lt' b)) := by
  have hB : ∀ b, b < n → (Bh b ↔ Bh' b) := by
    refine Gr_eq h.1 h'.1 (fun Z b hb1 hr => ?_) (fun Z V b hb1 hr hZ hF => hF.imp id (fun h => ⟨⟨h.1.1, fun a ha hra he => hZ a ha hra (h.1.2 a ha hra he)⟩, h.2⟩))
    simp only [FBm, hC b hb1 hr, hL b hb1 hr]
  have hW : ∀ b, b < n → (Wt b ↔ Wt' b) := by
    refine Gr_eq h.2.1 h'.2.1 (fun Z b hb1 hr => ?_) (fun Z V b hb1 hr hZ hF => hF.imp id (fun h => ⟨⟨h.1.1, fun d hd he => hZ d hd (hcl b d hr he) (h.1.2 d hd he)⟩, h.2⟩))
    simp only [FWm, hC b hb1 hr, hA b hb1 hr]
  refine ⟨hB, hW, Gr_eq h.2.2 h'.2.2 (fun Z b hb1 hr => ?_) (fun Z V b hb1 hr hZ hF => ⟨hF.1, fun a ha hra he => (hF.2 a ha hra he).imp id (fun h => ⟨hZ a ha hra h.1, h.2⟩)⟩)⟩
  have hEA : ∀ a, a < n → Rc a → (EAm n E Wt Bh Ch a b ↔ EAm n E Wt' Bh' Ch' a b) := by
    intro a ha hra
    simp only [EAm, hB a ha, hC a ha hra, hW b hb1]
    have : (∀ c, c < n → E a c → Wt c) ↔ (∀ c, c < n → E a c → Wt' c) := ⟨fun h c hc he => (hW c hc).1 (h c hc he), fun h c hc he => (hW c hc).2 (h c hc he)⟩
    rw [this]
  simp only [FLm, hW b hb1]
  refine and_congr Iff.rfl ⟨fun h a ha hra he => ?_, fun h a ha hra he => ?_⟩
  · rw [← hEA a ha hra, ← hA a ha hra]; exact h a ha hra he
  · rw [hEA a ha hra, hA a ha hra]; exact h a ha hra he
def HC (n m : Nat) (E : Nat → Nat → Prop) (z : Sta) : Prop := n ≤ 16 ∧ 0 < n ∧ z.1 2 = ix n ∧ m ≤ 24 ∧ z.1 3 = ix m ∧ (∀ a, a < n → okS n (z.2.1 5 a) ∧ okS n (z.2.1 6 a)) ∧ (∀ a, a < n → (z.2.1 5 a = mi ↔ z.2.1 6 a = mi)) ∧ (∀ a c, a < n → c < n → (E a c ↔ z.2.1 5 a = ix c ∨ z.2.1 6 a = ix c)) ∧ (∀ a c, E a c → a < n ∧ c < n)
theorem HC_fr {n m : Nat} {E : Nat → Nat → Prop} {z y : Sta} {I A L : List Nat} (h : HC n m E z) (hf : fr I A L z y) (h2 : 2 ∉ I) (h3 : 3 ∉ I) (h5 : 5 ∉ A) (h6 : 6 ∉ A) : HC n m E y := by
  unfold HC
  rw [hf.1 2 h2, hf.1 3 h3, hf.2.1 5 h5, hf.2.1 6 h6]; exact h
def Chc (z : Sta) (sz : Nat → Nat) (e b : Nat) : Prop := (lk (cpC z b e) (gvC z b e) (sz b)).1
def Asc (z : Sta) (sz : Nat → Nat) (e b : Nat) : Prop := (lk (cpC z b e) (gvC z b e) (sz b)).2.1
def Lvc (z : Sta) (sz : Nat → Nat) (e b : Nat) : Prop := (lk (cpC z b e) (gvC z b e) (sz b)).2.2
theorem cpC_fr {z y : Sta} {I A L : List Nat} (h : fr I A L z y) (h1 : 1 ∉ A) (h3 : 3 ∉ A) (b e : Nat) : cpC y b e = cpC z b e := by
  funext k; simp only [cpC, h.2.1 1 h1, h.2.1 3 h3]
theorem gvC_fr {z y : Sta} {I A L : List Nat} (h : fr I A L z y) (h1 : 1 ∉ A) (h2 : 2 ∉ A) (h0 : 0 ∉ L) (b e : Nat) : gvC y b e = gvC z b e := by
  funext k; simp only [gvC, h.2.1 1 h1, h.2.1 2 h2, h.2.2 0 h0]
theorem s_O_fillSets {z : Sta} {K : Sta → Prop} {b m : Nat} {p : Prop} (hb1 : b < 16) (hm : m ≤ 24) (hM : z.1 3 = ix m) (hr : isb (z.2.1 10 b) p)
    (h : ∀ x, (∀ e, hb x e = true ↔ p ∧ e < m) → K (zL (zL (zL (zL (zL z 4 (vp_updL (z.2.2 4) b x)) 5 (vp_updL (z.2.2 5) b x)) 6 (vp_updL (z.2.2 6) b x)) 7 (vp_updL (z.2.2 7) b x)) 8 (vp_updL (z.2.2 8) b x))) : wp_O_fillSets (ix b) z K := by
  simp (disch := omega) only [wp_O_fillSets, pj_O_fillSets_24, hM, forall_eq, l0, l1, l2, l3, l4, l5, l6, l15, l16, l24, l30, l99, l100, l200, l385, lm1, ix_ne, ne_ix, ix_nat, vp_ix, ix_inj, ix_le, ix_lt, ix_add, ix_mul, ix_sub, nar0', nar1', or00, or01, or10, or11, rI, rIA, rIL, rA, rAI, rAL, rL, rLI, rLA, ru, ruL, reduceIte, Nat.reduceEqDiff, true_or, or_true, true_and, and_true, false_or, or_false, not_true_eq_false, not_false_eq_true, false_implies, true_implies, implies_true, i10, i01]
  refine ⟨by omega, fun h0 => ⟨by omega, by omega, by omega, by omega, by omega, h _ (fun e => ?_)⟩, fun h0 => ⟨by omega, by omega, by omega, by omega, by omega, h _ (fun e => ?_)⟩⟩
  · rw [hb_0]; exact ⟨fun h => absurd h Bool.false_ne_true, fun h => absurd h.1 ((isb_z hr).1 h0)⟩
  · rw [hb_start hm, decide_eq_true_eq]; exact ⟨fun h => ⟨isb_n hr h0, h⟩, fun h => h.2⟩
theorem s_O_findSets {n m : Nat} {E : Nat → Nat → Prop} {z : Sta} {K : Sta → Prop} {sz : Nat → Nat} (H : HC n m E z) (hsz : ∀ b, b < n → z.2.1 0 b = ix (sz b) ∧ sz b ≤ 5)
    (hop : ∀ b k, b < n → k < sz b → z.2.1 1 (5 * b + k) = ix 2 → ∃ e, e < m ∧ z.2.1 3 (5 * b + k) = ix e)
    (htg : ∀ b k, b < n → k < sz b → ∃ t, t < 6 ∧ z.2.1 2 (5 * b + k) = ix t)
    (hz0 : (∀ k b e, (k = 4 ∨ k = 6 ∨ k = 8) → n ≤ b → b < 16 → hb (z.2.2 k b) e = false))
    (hK : ∀ y, fr [] [10] [1, 2, 3, 4, 5, 6, 7, 8, 9] z y → (∀ b, b < 16 → isb (y.2.1 10 b) (Rch E b)) →
      (∀ b e, b < n → Rch E b → e < 64 → (hb (y.2.2 1 b) e = true ↔ Chc z sz e b) ∧ (hb (y.2.2 2 b) e = true ↔ Asc z sz e b) ∧ (hb (y.2.2 3 b) e = true ↔ Lvc z sz e b)) →
      (∀ b e, b < n → ¬ Rch E b → ∀ k, 1 ≤ k → k ≤ 9 → hb (y.2.2 k b) e = false) →
      (∀ e, e < m → PL n E (Rch E) (Chc z sz e) (Asc z sz e) (Lvc z sz e) (fun b => hb (y.2.2 5 b) e = true) (fun b => hb (y.2.2 6 b) e = true) (fun b => hb (y.2.2 8 b) e = true)) →
      (∀ b e, b < n → Rch E b → e < m → (hb (y.2.2 4 b) e = true ↔ 0 < b ∧ ∀ a, a < n → Rch E a → E a b → hb (y.2.2 5 a) e = true)) →
      (∀ b e, b < n → Rch E b → e < m → (hb (y.2.2 7 b) e = true ↔ (∃ c, c < n ∧ E b c) ∧ ∀ c, c < n → E b c → hb (y.2.2 6 c) e = true)) →
      (∀ b e, b < n → Rch E b → m ≤ e → ∀ k, 1 ≤ k → k ≤ 9 → k ≠ 1 → hb (y.2.2 k b) e = false) →
      (∀ b, b < n → y.2.2 9 b = y.2.2 2 b &&& (y.2.2 8 b ^^^ (-1))) → (∀ k b e, (k = 4 ∨ k = 6 ∨ k = 8) → n ≤ b → b < 16 → hb (y.2.2 k b) e = false) → K y) : wp_O_findSets z K := by
  obtain ⟨hn, hn0, hN, hm, hM, hok, hb2, hfE, hE⟩ := H
  let Rc := Rch E
  have hcl : ∀ a c, Rc a → E a c → Rc c := fun a c h e => Rch_s h e
  have last : ∀ (k i : Nat) (y : Sta), i + k = n → y.1 2 = ix n → (∀ y', fr [] [] [9] y y' → (∀ b, b < i → y'.2.2 9 b = y.2.2 9 b) → (∀ b, i ≤ b → b < n → y'.2.2 9 b = y.2.2 2 b &&& (y.2.2 8 b ^^^ (-1))) → K y') → lp_O_findSets_47 K (k + 1) (ix i) y := by
    intro k
    induction k with
    | zero =>
      intro i y hik hNy h
      rw [lp_O_findSets_47]
      simp (disch := omega) only [hNy, forall_eq, l0, l1, l2, l3, l4, l5, l6, l15, l16, l24, l30, l99, l100, l200, l385, lm1, ix_ne, ne_ix, ix_nat, vp_ix, ix_inj, ix_le, ix_lt, ix_add, ix_mul, ix_sub, nar0', nar1', or00, or01, or10, or11, rI, rIA, rIL, rA, rAI, rAL, rL, rLI, rLA, ru, ruL, reduceIte, Nat.reduceEqDiff, true_or, or_true, true_and, and_true, false_or, or_false, not_true_eq_false, not_false_eq_true, false_implies, true_implies, implies_true, i10, i01]
      exact ⟨fun _ => h y (fr_refl y) (fun _ _ => rfl) (fun b h1 h2 => absurd h2 (by omega)), fun h => absurd (by omega) h⟩
    | succ k ih =>
      intro i y hik hNy h
      rw [lp_O_findSets_47]
      simp (disch := omega) only [hNy, forall_eq, l0, l1, l2, l3, l4, l5, l6, l15, l16, l24, l30, l99, l100, l200, l385, lm1, ix_ne, ne_ix, ix_nat, vp_ix, ix_inj, ix_le, ix_lt, ix_add, ix_mul, ix_sub, nar0', nar1', or00, or01, or10, or11, rI, rIA, rIL, rA, rAI, rAL, rL, rLI, rLA, ru, ruL, reduceIte, Nat.reduceEqDiff, true_or, or_true, true_and, and_true, false_or, or_false, not_true_eq_false, not_false_eq_true, false_implies, true_implies, implies_true, i10, i01]
      refine ⟨fun h => absurd h (by omega), fun _ => ⟨by omega, by omega, by omega, ih (i + 1) _ (by omega) hNy (fun y' h1 h2 h3 => h y' (fr_tr (fr_L (fr_refl y) (by decide) _) h1) (fun b hb1 => ?_) (fun b h4 h5 => ?_))⟩⟩
      · rw [h2 b (by omega)]
        show vp_updL (y.2.2 9) i _ b = _
        rw [ruL, if_neg (by omega)]
      · rcases Nat.lt_or_ge i b with e | e
        · exact h3 b (by omega) h5
        · have : b = i := by omega
          subst this
          rw [h2 b (by omega)]
          show vp_updL (y.2.2 9) b _ b = _
          rw [ruL, if_pos rfl]
  have flows : ∀ y2, fr [] [10] [1, 2, 3, 4, 5, 6, 7, 8] z y2 → (∀ b, b < 16 → isb (y2.2.1 10 b) (Rc b)) →
      (∀ b e, b < n → e < 64 → (Rc b → (hb (y2.2.2 1 b) e = true ↔ Chc z sz e b) ∧ (hb (y2.2.2 2 b) e = true ↔ Asc z sz e b) ∧ (hb (y2.2.2 3 b) e = true ↔ Lvc z sz e b)) ∧ (¬ Rc b → hb (y2.2.2 1 b) e = false ∧ hb (y2.2.2 2 b) e = false ∧ hb (y2.2.2 3 b) e = false)) →
      (∀ b e k, b < n → 4 ≤ k → k ≤ 8 → (hb (y2.2.2 k b) e = true ↔ Rc b ∧ e < m)) → (∀ k b e, (k = 4 ∨ k = 6 ∨ k = 8) → n ≤ b → b < 16 → hb (y2.2.2 k b) e = false) →
      wp_O_flowThere y2 (fun z3 => wp_O_flowWanted z3 (fun z4 => wp_O_flowLate z4 (fun z5 => ∃ n47 : Nat, lp_O_findSets_47 K n47 0 z5))) := by
    intro y2 hfr hr h1 h4 hz1
    have HN2 : y2.1 2 = ix n := (hfr.1 2 (by decide)).trans hN
    have e5 : y2.2.1 5 = z.2.1 5 := hfr.2.1 5 (by decide)
    have e6 : y2.2.1 6 = z.2.1 6 := hfr.2.1 6 (by decide)
    have hst : ∀ k, (k = 4 ∨ k = 6 ∨ k = 8) → ∀ b e, b < 16 → hb (y2.2.2 k b) e = true → e < 24 := by
      intro k hk b e hb1 hh
      rcases Nat.lt_or_ge b n with e1 | e1
      · have := (h4 b e k e1 (by omega) (by omega)).1 hh; omega
      · rw [hz1 k b e hk e1 hb1] at hh; exact absurd hh Bool.false_ne_true
    refine s_O_flowThere (E := E) (Rc := Rc) hn hn0 HN2 (by rw [e5, e6]; exact hok) (by rw [e5, e6]; exact hfE) hr (hst 4 (Or.inl rfl)) (fun y3 hfr3 ov4 sub4 z40 d5 d45 u5 => ?_)
    have a3 : ∀ k, k ≠ 4 → k ≠ 5 → y3.2.2 k = y2.2.2 k := fun k h4 h5 => hfr3.2.2 k (by simp [h4, h5])
    have i3 : y3.2.1 = y2.2.1 := funext fun k => hfr3.2.1 k (by simp)
    refine s_O_flowWanted (E := E) (Rc := Rc) hn hn0 ((hfr3.1 2 (by decide)).trans HN2) (by rw [i3, e5, e6]; exact hok) (by rw [i3, e5, e6]; exact hb2) (by rw [i3, e5, e6]; exact hfE) (by rw [i3]; exact hr) (by rw [a3 6 (by decide) (by decide)]; exact hst 6 (Or.inr (Or.inl rfl))) (fun y4 hfr4 ov6 sub6 d7 d6 u7 => ?_)
    have a4 : ∀ k, k ≠ 6 → k ≠ 7 → y4.2.2 k = y3.2.2 k := fun k h4 h5 => hfr4.2.2 k (by simp [h4, h5])
    have i4 : y4.2.1 = y2.2.1 := funext fun k => (hfr4.2.1 k (by simp)).trans (hfr3.2.1 k (by simp))
    rw [a3 6 (by decide) (by decide), a3 2 (by decide) (by decide), a3 1 (by decide) (by decide)] at ov6
    rw [a3 6 (by decide) (by decide)] at sub6
    rw [a3 2 (by decide) (by decide), a3 1 (by decide) (by decide)] at d6
    rw [a3 7 (by decide) (by decide)] at u7
    have k8 : y4.2.2 8 = y2.2.2 8 := (a4 8 (by decide) (by decide)).trans (a3 8 (by decide) (by decide))
    have k2 : y4.2.2 2 = y2.2.2 2 := (a4 2 (by decide) (by decide)).trans (a3 2 (by decide) (by decide))
    have k1 : y4.2.2 1 = y2.2.2 1 := (a4 1 (by decide) (by decide)).trans (a3 1 (by decide) (by decide))
    have k3 : y4.2.2 3 = y2.2.2 3 := (a4 3 (by decide) (by decide)).trans (a3 3 (by decide) (by decide))
    have k4 : y4.2.2 4 = y3.2.2 4 := a4 4 (by decide) (by decide)
    have k5 : y4.2.2 5 = y3.2.2 5 := a4 5 (by decide) (by decide)
    refine s_O_flowLate (E := E) (Rc := Rc) hn hn0 (((hfr4.1 2 (by decide)).trans (hfr3.1 2 (by decide))).trans HN2) (by rw [i4, e5, e6]; exact hok) (by rw [i4, e5, e6]; exact hfE) (by rw [i4]; exact hr) (by rw [k8]; exact hst 8 (Or.inr (Or.inr rfl))) (fun b e hb1 hh => hst 6 (Or.inr (Or.inl rfl)) b e hb1 (sub6 b e hb1 hh)) (fun y5 hfr5 ov8 sub8 w8 d8 => ?_)
    have a5 : ∀ k, k ≠ 8 → y5.2.2 k = y4.2.2 k := fun k h8 => hfr5.2.2 k (by simp [h8])
    rw [k8, k2] at ov8
    rw [k8] at sub8
    rw [k2] at d8
    have HN5 : y5.1 2 = ix n := (hfr5.1 2 (by decide)).trans (((hfr4.1 2 (by decide)).trans (hfr3.1 2 (by decide))).trans HN2)
    refine ⟨n + 1, ?_⟩
    rw [l0]
    refine last n 0 y5 (by omega) HN5 (fun y hfr9 _ h9 => ?_)
    have b9 : ∀ k, k ≠ 9 → y.2.2 k = y5.2.2 k := fun k h => hfr9.2.2 k (by simp [h])
    have c1 : y.2.2 1 = y2.2.2 1 := ((b9 1 (by decide)).trans (a5 1 (by decide))).trans k1
    have c2 : y.2.2 2 = y2.2.2 2 := ((b9 2 (by decide)).trans (a5 2 (by decide))).trans k2
    have c3 : y.2.2 3 = y2.2.2 3 := ((b9 3 (by decide)).trans (a5 3 (by decide))).trans k3
    have c4 : y.2.2 4 = y3.2.2 4 := ((b9 4 (by decide)).trans (a5 4 (by decide))).trans k4
    have c5 : y.2.2 5 = y3.2.2 5 := ((b9 5 (by decide)).trans (a5 5 (by decide))).trans k5
    have c6 : y.2.2 6 = y4.2.2 6 := (b9 6 (by decide)).trans (a5 6 (by decide))
    have c7 : y.2.2 7 = y4.2.2 7 := (b9 7 (by decide)).trans (a5 7 (by decide))
    have c8 : y.2.2 8 = y5.2.2 8 := b9 8 (by decide)
    have ci : y.2.1 = y2.2.1 := (funext fun k => (hfr9.2.1 k (by simp)).trans (hfr5.2.1 k (by simp))).trans i4
    have cI : y.1 = y2.1 := funext fun k => ((hfr9.1 k (by simp)).trans (hfr5.1 k (by simp))).trans ((hfr4.1 k (by simp)).trans (hfr3.1 k (by simp)))
    have c9 : ∀ b, b < n → y.2.2 9 b = y2.2.2 2 b &&& (y5.2.2 8 b ^^^ (-1)) := by
      intro b hb1
      rw [h9 b (by omega) hb1, a5 2 (by decide), k2]
    have frz : fr [] [10] [1, 2, 3, 4, 5, 6, 7, 8, 9] z y := by
      refine ⟨fun k hk => ?_, fun k hk => ?_, fun k hk => ?_⟩
      · rw [cI]; exact hfr.1 k hk
      · rw [ci]; exact hfr.2.1 k hk
      · simp only [List.mem_cons, List.not_mem_nil, or_false, not_or] at hk
        rw [b9 k hk.2.2.2.2.2.2.2.2, a5 k hk.2.2.2.2.2.2.2.1, a4 k hk.2.2.2.2.2.1 hk.2.2.2.2.2.2.1, a3 k hk.2.2.2.1 hk.2.2.2.2.1]
        exact hfr.2.2 k (by simp [hk])
    have ff : ∀ {x : Bool}, ¬ x = true → x = false := fun h => Bool.eq_false_iff.2 h
    have rch0 : Rc 0 := Rch_0
    have st4 : ∀ b e, b < n → hb (y3.2.2 4 b) e = true → Rc b ∧ e < m := fun b e hb1 hh => (h4 b e 4 hb1 (by omega) (by omega)).1 (sub4 b e (by omega) hh)
    have st6 : ∀ b e, b < n → hb (y4.2.2 6 b) e = true → Rc b ∧ e < m := fun b e hb1 hh => (h4 b e 6 hb1 (by omega) (by omega)).1 (sub6 b e (by omega) hh)
    have st8 : ∀ b e, b < n → hb (y5.2.2 8 b) e = true → Rc b ∧ e < m := by
      intro b e hb1 hh
      by_cases e0 : b = 0
      · subst e0; exact st6 0 e hb1 (w8 e hh)
      · exact (h4 b e 8 hb1 (by omega) (by omega)).1 (sub8 b e (by omega) e0 hh)
    have C5 : ∀ b e, b < n → Rc b → e < 64 → (hb (y3.2.2 5 b) e = true ↔ Lvc z sz e b ∨ (hb (y3.2.2 4 b) e = true ∧ ¬ Chc z sz e b)) := by
      intro b e hb1 hrb he
      have hh := (h1 b e hb1 he).1 hrb
      rw [d5 b hb1 hrb, hb_or, hb_andn, Bool.or_eq_true, Bool.and_eq_true, hh.2.2, Bool.not_eq_true', ← Bool.not_eq_true, hh.1]
    have z7 : ∀ b e, b < n → Rc b → (hb (y4.2.2 7 b) e = true ↔ (∃ c, c < n ∧ E b c) ∧ ∀ c, c < n → E b c → hb (y4.2.2 6 c) e = true) := fun b e hb1 hrb => d7 b e hb1 hrb
    have noA : ∀ b e, b < n → m ≤ e → e < 64 → ¬ Asc z sz e b ∧ ¬ Lvc z sz e b := by
      intro b e hb1 hme he
      have : ∀ k, k ≤ sz b → ¬ (lk (cpC z b e) (gvC z b e) k).2.1 ∧ ¬ (lk (cpC z b e) (gvC z b e) k).2.2 := by
        intro k
        induction k with
        | zero => exact fun _ => ⟨fun h => h, fun h => h⟩
        | succ k ih =>
          intro hk
          have ih := ih (by omega)
          have hc : ¬ cpC z b e k := by
            intro hc
            obtain ⟨e', he', ho⟩ := hop b k hb1 (by omega) hc.1
            have := hc.2.symm.trans ho
            rw [ix_inj (by omega) (by omega)] at this; omega
          exact ⟨fun h => h.elim ih.1 (fun h => hc h.1), fun h => h.1.elim ih.2 hc⟩
      exact this (sz b) (Nat.le_refl _)
    have EAe : ∀ a b e, a < n → b < n → Rc a → e < 64 → (EAb y4 a b e ↔ EAm n E (fun b => hb (y4.2.2 6 b) e = true) (fun b => hb (y3.2.2 5 b) e = true) (Chc z sz e) a b) := by
      intro a b e ha hb1 hra he
      simp only [EAb, EAm, k5, k1, z7 a e ha hra, ((h1 a e ha he).1 hra).1]
    refine hK y frz (fun b hb1 => by rw [ci]; exact hr b hb1) (fun b e hb1 hrb he => ?_) (fun b e hb1 hrb k hk1 hk9 => ?_) (fun e he => ⟨⟨fun Y b hY hYb => ?_, fun b hb1 hh => ?_⟩, ⟨fun Y b hY hYb => ?_, fun b hb1 hh => ?_⟩, ⟨fun Y b hY hYb => ?_, fun b hb1 hh => ?_⟩⟩) (fun b e hb1 hrb he => ?_) (fun b e hb1 hrb he => ?_) (fun b e hb1 hrb hme k hk1 hk9 hk => ?_) (fun b hb1 => ?_) (fun k b e hk hb1 hb16 => ?_)
    · rw [c1, c2, c3]; exact (h1 b e hb1 he).1 hrb
    · rcases Nat.lt_or_ge e 64 with he | he
      · have hu := (h1 b e hb1 he).2 hrb
        have q4 : hb (y3.2.2 4 b) e = false := ff (fun hh => hrb (st4 b e hb1 hh).1)
        have q5 : hb (y3.2.2 5 b) e = false := by
          rw [u5 b hb1 hrb]; exact ff (fun hh => hrb ((h4 b e 5 hb1 (by omega) (by omega)).1 hh).1)
        have q6 : hb (y4.2.2 6 b) e = false := ff (fun hh => hrb (st6 b e hb1 hh).1)
        have q7 : hb (y4.2.2 7 b) e = false := by
          rw [u7 b hb1 hrb]; exact ff (fun hh => hrb ((h4 b e 7 hb1 (by omega) (by omega)).1 hh).1)
        have q8 : hb (y5.2.2 8 b) e = false := ff (fun hh => hrb (st8 b e hb1 hh).1)
        rcases (by omega : k = 1 ∨ k = 2 ∨ k = 3 ∨ k = 4 ∨ k = 5 ∨ k = 6 ∨ k = 7 ∨ k = 8 ∨ k = 9) with ek | ek | ek | ek | ek | ek | ek | ek | ek <;> subst ek
        · rw [c1]; exact hu.1
        · rw [c2]; exact hu.2.1
        · rw [c3]; exact hu.2.2
        · rw [c4]; exact q4
        · rw [c5]; exact q5
        · rw [c6]; exact q6
        · rw [c7]; exact q7
        · rw [c8]; exact q8
        · rw [c9 b hb1, hb_andn, hu.2.1]; rfl
      · exact hb_ge _ he
    · -- over: behind
      rw [c5]
      have hYc := hY b hYb
      show hb (y3.2.2 5 b) e = true
      rw [C5 b e hYc.1 hYc.2.1 (by omega)]
      have hX : ∀ b, (b < n ∧ Rc b ∧ 0 < b ∧ ∀ a, a < n → Rc a → E a b → Y a) → hb (y3.2.2 4 b) e = true := by
        intro b hb3
        refine ov4 e (fun b => b < n ∧ Rc b ∧ 0 < b ∧ ∀ a, a < n → Rc a → E a b → Y a) b (by omega) (fun c hc => ⟨by omega, by omega, (h4 c e 4 hc.1 (by omega) (by omega)).2 ⟨hc.2.1, he⟩, fun a ha hra hea => ?_⟩) hb3
        have hya := hY a (hc.2.2.2 a ha hra hea)
        have ha1 := (h1 a e ha (by omega)).1 hra
        rcases hya.2.2 with h | ⟨h, h'⟩
        · exact Or.inl (ha1.2.2.2 h)
        · exact Or.inr ⟨⟨ha, hra, h.1, h.2⟩, fun hh => h' (ha1.1.1 hh)⟩
      rcases hYc.2.2 with h | ⟨h, h'⟩
      · exact Or.inl h
      · exact Or.inr ⟨hX b ⟨hYc.1, hYc.2.1, h.1, h.2⟩, h'⟩
    · rw [c5] at hh
      have hrb : Rc b := Classical.byContradiction fun hrb => by
        rw [u5 b hb1 hrb] at hh; exact hrb ((h4 b e 5 hb1 (by omega) (by omega)).1 hh).1
      refine ⟨hrb, ?_⟩
      rcases (C5 b e hb1 hrb (by omega)).1 hh with h | ⟨h, h'⟩
      · exact Or.inl h
      · refine Or.inr ⟨⟨?_, fun a ha hra hea => ?_⟩, h'⟩
        · rcases Nat.eq_zero_or_pos b with e0 | e0
          · rw [e0, z40 e] at h; exact absurd h Bool.false_ne_true
          · exact e0
        · show hb (y.2.2 5 a) e = true
          rw [c5]; exact d45 a b ha hra hb1 hea e h
    · -- over: wanted
      rw [c6]
      refine ov6 e Y b (by omega) (fun c hc => ⟨by have := (hY c hc).1; omega, (h4 c e 6 (hY c hc).1 (by omega) (by omega)).2 ⟨(hY c hc).2.1, he⟩, fun hcn hrc => ?_⟩) hYb
      have ha1 := (h1 c e hcn (by omega)).1 hrc
      rcases (hY c hc).2.2 with h | ⟨h, h'⟩
      · exact Or.inl (ha1.2.1.2 h)
      · exact Or.inr ⟨h, fun hh => h' (ha1.1.1 hh)⟩
    · rw [c6] at hh
      have hrb := (st6 b e hb1 hh).1
      have ha1 := (h1 b e hb1 (by omega)).1 hrb
      refine ⟨hrb, ?_⟩
      rcases d6 b e hb1 hrb hh with h | ⟨h, h'⟩
      · exact Or.inl (ha1.2.1.1 h)
      · refine Or.inr ⟨?_, fun hh => h' (ha1.1.2 hh)⟩
        have := (z7 b e hb1 hrb).1 h
        refine ⟨this.1, fun d hd hed => ?_⟩
        show hb (y.2.2 6 d) e = true
        rw [c6]; exact this.2 d hd hed
    · -- over: late
      rw [c8]
      refine ov8 e Y b (by omega) (fun c hc => ⟨by have := (hY c hc).1; omega, (h4 c e 8 (hY c hc).1 (by omega) (by omega)).2 ⟨(hY c hc).2.1, he⟩, fun e0 => ?_, fun a ha hra hea => ?_⟩) hYb
      · have := (hY c hc).2.2.1 e0
        rw [c6] at this; exact this
      · have := (hY c hc).2.2.2 a ha hra hea
        rw [c6, c5] at this
        rw [EAe a c e ha (hY c hc).1 hra (by omega)]
        exact this.imp id (fun h => ⟨h.1, fun hh => h.2 (((h1 a e ha (by omega)).1 hra).2.1.1 hh)⟩)
    · rw [c8] at hh
      refine ⟨(st8 b e hb1 hh).1, fun e0 => ?_, fun a ha hra hea => ?_⟩
      · show hb (y.2.2 6 b) e = true
        rw [c6, e0]; rw [e0] at hh; exact w8 e hh
      · have := d8 a b e ha hra hb1 hea hh
        rw [EAe a b e ha hb1 hra (by omega)] at this
        rw [c6, c5, c8]
        exact this.imp id (fun h => ⟨h.1, fun hh => h.2 (((h1 a e ha (by omega)).1 hra).2.1.2 hh)⟩)
    · -- there before
      rw [c4, c5]
      constructor
      · intro hh
        refine ⟨?_, fun a ha hra hea => d45 a b ha hra hb1 hea e hh⟩
        rcases Nat.eq_zero_or_pos b with e0 | e0
        · rw [e0, z40 e] at hh; exact absurd hh Bool.false_ne_true
        · exact e0
      · intro hh
        refine ov4 e (fun b => b < n ∧ Rc b ∧ 0 < b ∧ ∀ a, a < n → Rc a → E a b → hb (y3.2.2 5 a) e = true) b (by omega) (fun c hc => ⟨by omega, by omega, (h4 c e 4 hc.1 (by omega) (by omega)).2 ⟨hc.2.1, he⟩, fun a ha hra hea => ?_⟩) ⟨hb1, hrb, hh⟩
        have ha1 := (h1 a e ha (by omega)).1 hra
        rcases (C5 a e ha hra (by omega)).1 (hc.2.2.2 a ha hra hea) with h | ⟨h, h'⟩
        · exact Or.inl (ha1.2.2.2 h)
        · refine Or.inr ⟨⟨ha, hra, ?_, fun d hd hrd hed => d45 d a hd hrd ha hed e h⟩, fun hh => h' (ha1.1.1 hh)⟩
          rcases Nat.eq_zero_or_pos a with e0 | e0
          · rw [e0, z40 e] at h; exact absurd h Bool.false_ne_true
          · exact e0
    · rw [c7, c6]; exact z7 b e hb1 hrb
    · rcases Nat.lt_or_ge e 64 with he | he
      · have hu := (h1 b e hb1 he).1 hrb
        have hna := noA b e hb1 hme he
        have q2 : hb (y2.2.2 2 b) e = false := ff (fun hh => hna.1 (hu.2.1.1 hh))
        have q4 : hb (y3.2.2 4 b) e = false := ff (fun hh => by have := (st4 b e hb1 hh).2; omega)
        rcases (by omega : k = 2 ∨ k = 3 ∨ k = 4 ∨ k = 5 ∨ k = 6 ∨ k = 7 ∨ k = 8 ∨ k = 9) with ek | ek | ek | ek | ek | ek | ek | ek <;> subst ek
        · rw [c2]; exact q2
        · rw [c3]; exact ff (fun hh => hna.2 (hu.2.2.1 hh))
        · rw [c4]; exact q4
        · rw [c5]
          refine ff (fun hh => ?_)
          rcases (C5 b e hb1 hrb he).1 hh with h | ⟨h, _⟩
          · exact hna.2 h
          · rw [q4] at h; exact absurd h Bool.false_ne_true
        · rw [c6]; exact ff (fun hh => by have := (st6 b e hb1 hh).2; omega)
        · rw [c7]
          refine ff (fun hh => ?_)
          obtain ⟨⟨c, hc, hec⟩, hall⟩ := (z7 b e hb1 hrb).1 hh
          have := (st6 c e hc (hall c hc hec)).2; omega
        · rw [c8]; exact ff (fun hh => by have := (st8 b e hb1 hh).2; omega)
        · rw [c9 b hb1, hb_andn, q2]; rfl
      · exact hb_ge _ he
    · rw [c9 b hb1, c2, c8]
    · rcases hk with ek | ek | ek <;> subst ek
      · rw [c4]; exact ff (fun hh => by have := sub4 b e hb16 hh; rw [hz1 4 b e (Or.inl rfl) hb1 hb16] at this; exact absurd this Bool.false_ne_true)
      · rw [c6]; exact ff (fun hh => by have := sub6 b e hb16 hh; rw [hz1 6 b e (Or.inr (Or.inl rfl)) hb1 hb16] at this; exact absurd this Bool.false_ne_true)
      · rw [c8]; exact ff (fun hh => by have := sub8 b e hb16 (by omega) hh; rw [hz1 8 b e (Or.inr (Or.inr rfl)) hb1 hb16] at this; exact absurd this Bool.false_ne_true)
  have loop : ∀ (k i : Nat) (y : Sta), i + k = n → fr [] [10] [1, 2, 3, 4, 5, 6, 7, 8] z y → (∀ b, b < 16 → isb (y.2.1 10 b) (Rc b)) →
      (∀ b e, b < i → e < 64 → (Rc b → (hb (y.2.2 1 b) e = true ↔ Chc z sz e b) ∧ (hb (y.2.2 2 b) e = true ↔ Asc z sz e b) ∧ (hb (y.2.2 3 b) e = true ↔ Lvc z sz e b)) ∧ (¬ Rc b → hb (y.2.2 1 b) e = false ∧ hb (y.2.2 2 b) e = false ∧ hb (y.2.2 3 b) e = false)) →
      (∀ b e k, b < i → 4 ≤ k → k ≤ 8 → (hb (y.2.2 k b) e = true ↔ Rc b ∧ e < m)) → (∀ k b e, (k = 4 ∨ k = 6 ∨ k = 8) → n ≤ b → b < 16 → hb (y.2.2 k b) e = false) → lp_O_findSets_6 K (k + 1) (ix i) y := by
    intro k
    induction k with
    | zero =>
      intro i y hik hfr hr h1 h4 hz1
      have hN' : y.1 2 = ix n := (hfr.1 2 (by decide)).trans hN
      rw [lp_O_findSets_6]
      simp (disch := omega) only [hN', forall_eq, l0, l1, l2, l3, l4, l5, l6, l15, l16, l24, l30, l99, l100, l200, l385, lm1, ix_ne, ne_ix, ix_nat, vp_ix, ix_inj, ix_le, ix_lt, ix_add, ix_mul, ix_sub, nar0', nar1', or00, or01, or10, or11, rI, rIA, rIL, rA, rAI, rAL, rL, rLI, rLA, ru, ruL, reduceIte, Nat.reduceEqDiff, true_or, or_true, true_and, and_true, false_or, or_false, not_true_eq_false, not_false_eq_true, false_implies, true_implies, implies_true, i10, i01]
      have : i = n := by omega
      subst this
      exact ⟨fun _ => flows y hfr hr h1 h4 hz1, fun h => absurd (by omega) h⟩
    | succ k ih =>
      intro i y hik hfr hr h1 h4 hz1
      have hN' : y.1 2 = ix n := (hfr.1 2 (by decide)).trans hN
      have hM' : y.1 3 = ix m := (hfr.1 3 (by decide)).trans hM
      have e0 : y.2.1 0 = z.2.1 0 := hfr.2.1 0 (by decide)
      have e1 : y.2.1 1 = z.2.1 1 := hfr.2.1 1 (by decide)
      have e2 : y.2.1 2 = z.2.1 2 := hfr.2.1 2 (by decide)
      have e3 : y.2.1 3 = z.2.1 3 := hfr.2.1 3 (by decide)
      rw [lp_O_findSets_6]
      simp (disch := omega) only [hN', forall_eq, l0, l1, l2, l3, l4, l5, l6, l15, l16, l24, l30, l99, l100, l200, l385, lm1, ix_ne, ne_ix, ix_nat, vp_ix, ix_inj, ix_le, ix_lt, ix_add, ix_mul, ix_sub, nar0', nar1', or00, or01, or10, or11, rI, rIA, rIL, rA, rAI, rAL, rL, rLI, rLA, ru, ruL, reduceIte, Nat.reduceEqDiff, true_or, or_true, true_and, and_true, false_or, or_false, not_true_eq_false, not_false_eq_true, false_implies, true_implies, implies_true, i10, i01]
      refine ⟨fun h => absurd h (by omega), fun _ => s_O_readBlock (sz := sz i) (by omega) (by rw [e0]; exact (hsz i (by omega)).1) (hsz i (by omega)).2 (fun k hk h => ?_) (fun k hk => ?_) (fun y1 hfr1 hoff hbits => ?_)⟩
      · rw [e1] at h; rw [e3]
        obtain ⟨e, he, h⟩ := hop i k (by omega) hk h
        exact ⟨e, by omega, h⟩
      · rw [e2]; exact htg i k (by omega) hk
      · have hM1 : y1.1 3 = ix m := (hfr1.1 3 (by decide)).trans hM'
        have hr1 : y1.2.1 10 = y.2.1 10 := hfr1.2.1 10 (by decide)
        refine s_O_fillSets (p := Rc i) (by omega) hm hM1 (by rw [hr1]; exact hr i (by omega)) (fun x hx => ?_)
        refine ih (i + 1) _ (by omega) (fr_L (fr_L (fr_L (fr_L (fr_L (fr_tr hfr (fr_mono hfr1 (by simp) (by simp) (by simp))) (by decide) _) (by decide) _) (by decide) _) (by decide) _) (by decide) _) (fun b hb1 => ?_) (fun b e hb1 he => ?_) (fun b e k hb1 hk4 hk8 => ?_) (fun k b e hk hb1 hb16 => ?_)
        · show isb (y1.2.1 10 b) (Rc b)
          rw [hr1]; exact hr b hb1
        · simp (disch := omega) only [forall_eq, l0, l1, l2, l3, l4, l5, l6, l15, l16, l24, l30, l99, l100, l200, l385, lm1, ix_ne, ne_ix, ix_nat, vp_ix, ix_inj, ix_le, ix_lt, ix_add, ix_mul, ix_sub, nar0', nar1', or00, or01, or10, or11, rI, rIA, rIL, rA, rAI, rAL, rL, rLI, rLA, ru, ruL, reduceIte, Nat.reduceEqDiff, true_or, or_true, true_and, and_true, false_or, or_false, not_true_eq_false, not_false_eq_true, false_implies, true_implies, implies_true, i10, i01]
          by_cases ebi : b = i
          · subst ebi
            have hh := hbits e he
            rw [cpC_fr hfr (by decide) (by decide), gvC_fr hfr (by decide) (by decide) (by decide)] at hh
            exact ⟨fun hrb => hh.1 (fun h0 => (isb_z (hr b (by omega))).1 h0 hrb), fun hrb => hh.2 ((isb_z (hr b (by omega))).2 hrb)⟩
          · obtain ⟨o1, o2, o3⟩ := hoff b ebi
            rw [o1, o2, o3]; exact h1 b e (by omega) he
        · have k4 := hfr1.2.2 4 (by decide)
          have k5 := hfr1.2.2 5 (by decide)
          have k6 := hfr1.2.2 6 (by decide)
          have k7 := hfr1.2.2 7 (by decide)
          have k8 := hfr1.2.2 8 (by decide)
          rcases (by omega : k = 4 ∨ k = 5 ∨ k = 6 ∨ k = 7 ∨ k = 8) with ek | ek | ek | ek | ek <;> subst ek <;> simp (disch := omega) only [k4, k5, k6, k7, k8, forall_eq, l0, l1, l2, l3, l4, l5, l6, l15, l16, l24, l30, l99, l100, l200, l385, lm1, ix_ne, ne_ix, ix_nat, vp_ix, ix_inj, ix_le, ix_lt, ix_add, ix_mul, ix_sub, nar0', nar1', or00, or01, or10, or11, rI, rIA, rIL, rA, rAI, rAL, rL, rLI, rLA, ru, ruL, reduceIte, Nat.reduceEqDiff, true_or, or_true, true_and, and_true, false_or, or_false, not_true_eq_false, not_false_eq_true, false_implies, true_implies, implies_true, i10, i01] <;> split
          · next eb => rw [eb]; exact hx e
          · exact h4 b e 4 (by omega) (by omega) (by omega)
          · next eb => rw [eb]; exact hx e
          · exact h4 b e 5 (by omega) (by omega) (by omega)
          · next eb => rw [eb]; exact hx e
          · exact h4 b e 6 (by omega) (by omega) (by omega)
          · next eb => rw [eb]; exact hx e
          · exact h4 b e 7 (by omega) (by omega) (by omega)
          · next eb => rw [eb]; exact hx e
          · exact h4 b e 8 (by omega) (by omega) (by omega)
        · have k4 := hfr1.2.2 4 (by decide)
          have k6 := hfr1.2.2 6 (by decide)
          have k8 := hfr1.2.2 8 (by decide)
          have hbi : b ≠ i := by omega
          rcases hk with ek | ek | ek <;> subst ek <;> simp (disch := omega) only [k4, k6, k8, if_neg hbi, forall_eq, l0, l1, l2, l3, l4, l5, l6, l15, l16, l24, l30, l99, l100, l200, l385, lm1, ix_ne, ne_ix, ix_nat, vp_ix, ix_inj, ix_le, ix_lt, ix_add, ix_mul, ix_sub, nar0', nar1', or00, or01, or10, or11, rI, rIA, rIL, rA, rAI, rAL, rL, rLI, rLA, ru, ruL, reduceIte, Nat.reduceEqDiff, true_or, or_true, true_and, and_true, false_or, or_false, not_true_eq_false, not_false_eq_true, false_implies, true_implies, implies_true, i10, i01]
          · exact hz1 4 b e (Or.inl rfl) hb1 hb16
          · exact hz1 6 b e (Or.inr (Or.inl rfl)) hb1 hb16
          · exact hz1 8 b e (Or.inr (Or.inr rfl)) hb1 hb16
  refine s_O_findReached hn hn0 hN hE hok hfE (fun y1 hfr1 hr1 => ⟨n + 1, ?_⟩)
  rw [l0]
  exact loop n 0 y1 (by omega) (fr_mono hfr1 (by simp) (by simp) (by simp)) hr1 (fun b e hb1 => absurd hb1 (by omega)) (fun b e k hb1 => absurd hb1 (by omega)) (fun k b e hk hb1 hb16 => by rw [hfr1.2.2 k (by simp)]; exact hz0 k b e hk hb1 hb16)
end
section
theorem kd_prog_4_method_4_code_0 : decode prog_4_method_4_code 0 = .ok (.aload_n 0, 1) := by decide +kernel
theorem kd_prog_4_method_4_code_1 : decode prog_4_method_4_code 1 = .ok (.getfield 31, 3) := by decide +kernel
theorem kd_prog_4_method_4_code_4 : decode prog_4_method_4_code 4 = .ok (.iload_n 1, 1) := by decide +kernel
theorem kd_prog_4_method_4_code_5 : decode prog_4_method_4_code 5 = .ok (.iload_n 2, 1) := by decide +kernel
theorem kd_prog_4_method_4_code_6 : decode prog_4_method_4_code 6 = .ok (.iastore, 1) := by decide +kernel
theorem kd_prog_4_method_4_code_7 : decode prog_4_method_4_code 7 = .ok (.aload_n 0, 1) := by decide +kernel
theorem kd_prog_4_method_4_code_8 : decode prog_4_method_4_code 8 = .ok (.getfield 34, 3) := by decide +kernel
theorem kd_prog_4_method_4_code_11 : decode prog_4_method_4_code 11 = .ok (.iload_n 1, 1) := by decide +kernel
theorem kd_prog_4_method_4_code_12 : decode prog_4_method_4_code 12 = .ok (.iload_n 3, 1) := by decide +kernel
theorem kd_prog_4_method_4_code_13 : decode prog_4_method_4_code 13 = .ok (.iastore, 1) := by decide +kernel
theorem kd_prog_4_method_4_code_14 : decode prog_4_method_4_code 14 = .ok (.aload_n 0, 1) := by decide +kernel
theorem kd_prog_4_method_4_code_15 : decode prog_4_method_4_code 15 = .ok (.getfield 37, 3) := by decide +kernel
theorem kd_prog_4_method_4_code_18 : decode prog_4_method_4_code 18 = .ok (.iload_n 1, 1) := by decide +kernel
theorem kd_prog_4_method_4_code_19 : decode prog_4_method_4_code 19 = .ok (.iload 4, 2) := by decide +kernel
theorem kd_prog_4_method_4_code_21 : decode prog_4_method_4_code 21 = .ok (.iastore, 1) := by decide +kernel
theorem kd_prog_4_method_4_code_22 : decode prog_4_method_4_code 22 = .ok (.iload_n 3, 1) := by decide +kernel
theorem kd_prog_4_method_4_code_23 : decode prog_4_method_4_code 23 = .ok (.iconst (-1), 1) := by decide +kernel
theorem kd_prog_4_method_4_code_24 : decode prog_4_method_4_code 24 = .ok (.if_icmp .ne 5, 3) := by decide +kernel
theorem kd_prog_4_method_4_code_27 : decode prog_4_method_4_code 27 = .ok (.iconst 0, 1) := by decide +kernel
theorem kd_prog_4_method_4_code_28 : decode prog_4_method_4_code 28 = .ok (.ireturn, 1) := by decide +kernel
theorem kd_prog_4_method_4_code_29 : decode prog_4_method_4_code 29 = .ok (.iload_n 3, 1) := by decide +kernel
theorem kd_prog_4_method_4_code_30 : decode prog_4_method_4_code 30 = .ok (.iload 4, 2) := by decide +kernel
theorem kd_prog_4_method_4_code_32 : decode prog_4_method_4_code 32 = .ok (.if_icmp .ne 7, 3) := by decide +kernel
theorem kd_prog_4_method_4_code_35 : decode prog_4_method_4_code 35 = .ok (.iconst 1, 1) := by decide +kernel
theorem kd_prog_4_method_4_code_36 : decode prog_4_method_4_code 36 = .ok (.goto 4, 3) := by decide +kernel
theorem kd_prog_4_method_4_code_39 : decode prog_4_method_4_code 39 = .ok (.iconst 2, 1) := by decide +kernel
theorem kd_prog_4_method_4_code_40 : decode prog_4_method_4_code 40 = .ok (.ireturn, 1) := by decide +kernel
theorem kd_prog_4_method_3_code_0 : decode prog_4_method_3_code 0 = .ok (.aload_n 0, 1) := by decide +kernel
theorem kd_prog_4_method_3_code_1 : decode prog_4_method_3_code 1 = .ok (.getfield 9, 3) := by decide +kernel
theorem kd_prog_4_method_3_code_4 : decode prog_4_method_3_code 4 = .ok (.istore_n 1, 1) := by decide +kernel
theorem kd_prog_4_method_3_code_5 : decode prog_4_method_3_code 5 = .ok (.aload_n 0, 1) := by decide +kernel
theorem kd_prog_4_method_3_code_6 : decode prog_4_method_3_code 6 = .ok (.dup, 1) := by decide +kernel
theorem kd_prog_4_method_3_code_7 : decode prog_4_method_3_code 7 = .ok (.getfield 9, 3) := by decide +kernel
theorem kd_prog_4_method_3_code_10 : decode prog_4_method_3_code 10 = .ok (.iconst 1, 1) := by decide +kernel
theorem kd_prog_4_method_3_code_11 : decode prog_4_method_3_code 11 = .ok (.iadd, 1) := by decide +kernel
theorem kd_prog_4_method_3_code_12 : decode prog_4_method_3_code 12 = .ok (.putfield 9, 3) := by decide +kernel
theorem kd_prog_4_method_3_code_15 : decode prog_4_method_3_code 15 = .ok (.aload_n 0, 1) := by decide +kernel
theorem kd_prog_4_method_3_code_16 : decode prog_4_method_3_code 16 = .ok (.iload_n 1, 1) := by decide +kernel
theorem kd_prog_4_method_3_code_17 : decode prog_4_method_3_code 17 = .ok (.iconst 0, 1) := by decide +kernel
theorem kd_prog_4_method_3_code_18 : decode prog_4_method_3_code 18 = .ok (.iconst (-1), 1) := by decide +kernel
theorem kd_prog_4_method_3_code_19 : decode prog_4_method_3_code 19 = .ok (.iconst (-1), 1) := by decide +kernel
theorem kd_prog_4_method_3_code_20 : decode prog_4_method_3_code 20 = .ok (.invokevirtual 53, 3) := by decide +kernel
theorem kd_prog_4_method_3_code_23 : decode prog_4_method_3_code 23 = .ok (.pop, 1) := by decide +kernel
theorem kd_prog_4_method_3_code_24 : decode prog_4_method_3_code 24 = .ok (.iload_n 1, 1) := by decide +kernel
theorem kd_prog_4_method_3_code_25 : decode prog_4_method_3_code 25 = .ok (.ireturn, 1) := by decide +kernel
theorem kd_prog_4_method_5_code_0 : decode prog_4_method_5_code 0 = .ok (.aload_n 0, 1) := by decide +kernel
theorem kd_prog_4_method_5_code_1 : decode prog_4_method_5_code 1 = .ok (.getfield 9, 3) := by decide +kernel
theorem kd_prog_4_method_5_code_4 : decode prog_4_method_5_code 4 = .ok (.ifCond .le 22, 3) := by decide +kernel
theorem kd_prog_4_method_5_code_7 : decode prog_4_method_5_code 7 = .ok (.aload_n 0, 1) := by decide +kernel
theorem kd_prog_4_method_5_code_8 : decode prog_4_method_5_code 8 = .ok (.getfield 18, 3) := by decide +kernel
theorem kd_prog_4_method_5_code_11 : decode prog_4_method_5_code 11 = .ok (.aload_n 0, 1) := by decide +kernel
theorem kd_prog_4_method_5_code_12 : decode prog_4_method_5_code 12 = .ok (.getfield 9, 3) := by decide +kernel
theorem kd_prog_4_method_5_code_15 : decode prog_4_method_5_code 15 = .ok (.iconst 1, 1) := by decide +kernel
theorem kd_prog_4_method_5_code_16 : decode prog_4_method_5_code 16 = .ok (.isub, 1) := by decide +kernel
theorem kd_prog_4_method_5_code_17 : decode prog_4_method_5_code 17 = .ok (.iaload, 1) := by decide +kernel
theorem kd_prog_4_method_5_code_18 : decode prog_4_method_5_code 18 = .ok (.iconst 5, 1) := by decide +kernel
theorem kd_prog_4_method_5_code_19 : decode prog_4_method_5_code 19 = .ok (.if_icmp .ge 7, 3) := by decide +kernel
theorem kd_prog_4_method_5_code_22 : decode prog_4_method_5_code 22 = .ok (.iconst 1, 1) := by decide +kernel
theorem kd_prog_4_method_5_code_23 : decode prog_4_method_5_code 23 = .ok (.goto 4, 3) := by decide +kernel
theorem kd_prog_4_method_5_code_26 : decode prog_4_method_5_code 26 = .ok (.iconst 0, 1) := by decide +kernel
theorem kd_prog_4_method_5_code_27 : decode prog_4_method_5_code 27 = .ok (.ireturn, 1) := by decide +kernel
theorem kd_prog_4_method_7_code_0 : decode prog_4_method_7_code 0 = .ok (.iconst 0, 1) := by decide +kernel
theorem kd_prog_4_method_7_code_1 : decode prog_4_method_7_code 1 = .ok (.istore 4, 2) := by decide +kernel
theorem kd_prog_4_method_7_code_3 : decode prog_4_method_7_code 3 = .ok (.iload 4, 2) := by decide +kernel
theorem kd_prog_4_method_7_code_5 : decode prog_4_method_7_code 5 = .ok (.aload_n 0, 1) := by decide +kernel
theorem kd_prog_4_method_7_code_6 : decode prog_4_method_7_code 6 = .ok (.getfield 15, 3) := by decide +kernel
theorem kd_prog_4_method_7_code_9 : decode prog_4_method_7_code 9 = .ok (.if_icmp .ge 45, 3) := by decide +kernel
theorem kd_prog_4_method_7_code_12 : decode prog_4_method_7_code 12 = .ok (.aload_n 0, 1) := by decide +kernel
theorem kd_prog_4_method_7_code_13 : decode prog_4_method_7_code 13 = .ok (.getfield 40, 3) := by decide +kernel
theorem kd_prog_4_method_7_code_16 : decode prog_4_method_7_code 16 = .ok (.iload 4, 2) := by decide +kernel
theorem kd_prog_4_method_7_code_18 : decode prog_4_method_7_code 18 = .ok (.iaload, 1) := by decide +kernel
theorem kd_prog_4_method_7_code_19 : decode prog_4_method_7_code 19 = .ok (.iload_n 1, 1) := by decide +kernel
theorem kd_prog_4_method_7_code_20 : decode prog_4_method_7_code 20 = .ok (.if_icmp .ne 28, 3) := by decide +kernel
theorem kd_prog_4_method_7_code_23 : decode prog_4_method_7_code 23 = .ok (.aload_n 0, 1) := by decide +kernel
theorem kd_prog_4_method_7_code_24 : decode prog_4_method_7_code 24 = .ok (.getfield 43, 3) := by decide +kernel
theorem kd_prog_4_method_7_code_27 : decode prog_4_method_7_code 27 = .ok (.iload 4, 2) := by decide +kernel
theorem kd_prog_4_method_7_code_29 : decode prog_4_method_7_code 29 = .ok (.iaload, 1) := by decide +kernel
theorem kd_prog_4_method_7_code_30 : decode prog_4_method_7_code 30 = .ok (.iload_n 2, 1) := by decide +kernel
theorem kd_prog_4_method_7_code_31 : decode prog_4_method_7_code 31 = .ok (.if_icmp .ne 17, 3) := by decide +kernel
theorem kd_prog_4_method_7_code_34 : decode prog_4_method_7_code 34 = .ok (.aload_n 0, 1) := by decide +kernel
theorem kd_prog_4_method_7_code_35 : decode prog_4_method_7_code 35 = .ok (.getfield 46, 3) := by decide +kernel
theorem kd_prog_4_method_7_code_38 : decode prog_4_method_7_code 38 = .ok (.iload 4, 2) := by decide +kernel
theorem kd_prog_4_method_7_code_40 : decode prog_4_method_7_code 40 = .ok (.iaload, 1) := by decide +kernel
theorem kd_prog_4_method_7_code_41 : decode prog_4_method_7_code 41 = .ok (.iload_n 3, 1) := by decide +kernel
theorem kd_prog_4_method_7_code_42 : decode prog_4_method_7_code 42 = .ok (.if_icmp .ne 6, 3) := by decide +kernel
theorem kd_prog_4_method_7_code_45 : decode prog_4_method_7_code 45 = .ok (.iload 4, 2) := by decide +kernel
theorem kd_prog_4_method_7_code_47 : decode prog_4_method_7_code 47 = .ok (.ireturn, 1) := by decide +kernel
theorem kd_prog_4_method_7_code_48 : decode prog_4_method_7_code 48 = .ok (.iinc 4 1, 3) := by decide +kernel
theorem kd_prog_4_method_7_code_51 : decode prog_4_method_7_code 51 = .ok (.goto (-48), 3) := by decide +kernel
theorem kd_prog_4_method_7_code_54 : decode prog_4_method_7_code 54 = .ok (.iconst (-1), 1) := by decide +kernel
theorem kd_prog_4_method_7_code_55 : decode prog_4_method_7_code 55 = .ok (.ireturn, 1) := by decide +kernel
theorem kd_prog_4_method_8_code_0 : decode prog_4_method_8_code 0 = .ok (.aload_n 0, 1) := by decide +kernel
theorem kd_prog_4_method_8_code_1 : decode prog_4_method_8_code 1 = .ok (.iload_n 1, 1) := by decide +kernel
theorem kd_prog_4_method_8_code_2 : decode prog_4_method_8_code 2 = .ok (.iload_n 2, 1) := by decide +kernel
theorem kd_prog_4_method_8_code_3 : decode prog_4_method_8_code 3 = .ok (.iload_n 3, 1) := by decide +kernel
theorem kd_prog_4_method_8_code_4 : decode prog_4_method_8_code 4 = .ok (.invokevirtual 57, 3) := by decide +kernel
theorem kd_prog_4_method_8_code_7 : decode prog_4_method_8_code 7 = .ok (.istore 4, 2) := by decide +kernel
theorem kd_prog_4_method_8_code_9 : decode prog_4_method_8_code 9 = .ok (.iload 4, 2) := by decide +kernel
theorem kd_prog_4_method_8_code_11 : decode prog_4_method_8_code 11 = .ok (.iconst (-1), 1) := by decide +kernel
theorem kd_prog_4_method_8_code_12 : decode prog_4_method_8_code 12 = .ok (.if_icmp .ne 12, 3) := by decide +kernel
theorem kd_prog_4_method_8_code_15 : decode prog_4_method_8_code 15 = .ok (.aload_n 0, 1) := by decide +kernel
theorem kd_prog_4_method_8_code_16 : decode prog_4_method_8_code 16 = .ok (.getfield 15, 3) := by decide +kernel
theorem kd_prog_4_method_8_code_19 : decode prog_4_method_8_code 19 = .ok (.bipush 24, 2) := by decide +kernel
theorem kd_prog_4_method_8_code_21 : decode prog_4_method_8_code 21 = .ok (.if_icmp .lt 6, 3) := by decide +kernel
theorem kd_prog_4_method_8_code_24 : decode prog_4_method_8_code 24 = .ok (.iload 4, 2) := by decide +kernel
theorem kd_prog_4_method_8_code_26 : decode prog_4_method_8_code 26 = .ok (.ireturn, 1) := by decide +kernel
theorem kd_prog_4_method_8_code_27 : decode prog_4_method_8_code 27 = .ok (.aload_n 0, 1) := by decide +kernel
theorem kd_prog_4_method_8_code_28 : decode prog_4_method_8_code 28 = .ok (.getfield 15, 3) := by decide +kernel
theorem kd_prog_4_method_8_code_31 : decode prog_4_method_8_code 31 = .ok (.istore 4, 2) := by decide +kernel
theorem kd_prog_4_method_8_code_33 : decode prog_4_method_8_code 33 = .ok (.aload_n 0, 1) := by decide +kernel
theorem kd_prog_4_method_8_code_34 : decode prog_4_method_8_code 34 = .ok (.dup, 1) := by decide +kernel
theorem kd_prog_4_method_8_code_35 : decode prog_4_method_8_code 35 = .ok (.getfield 15, 3) := by decide +kernel
theorem kd_prog_4_method_8_code_38 : decode prog_4_method_8_code 38 = .ok (.iconst 1, 1) := by decide +kernel
theorem kd_prog_4_method_8_code_39 : decode prog_4_method_8_code 39 = .ok (.iadd, 1) := by decide +kernel
theorem kd_prog_4_method_8_code_40 : decode prog_4_method_8_code 40 = .ok (.putfield 15, 3) := by decide +kernel
theorem kd_prog_4_method_8_code_43 : decode prog_4_method_8_code 43 = .ok (.aload_n 0, 1) := by decide +kernel
theorem kd_prog_4_method_8_code_44 : decode prog_4_method_8_code 44 = .ok (.getfield 40, 3) := by decide +kernel
theorem kd_prog_4_method_8_code_47 : decode prog_4_method_8_code 47 = .ok (.iload 4, 2) := by decide +kernel
theorem kd_prog_4_method_8_code_49 : decode prog_4_method_8_code 49 = .ok (.iload_n 1, 1) := by decide +kernel
theorem kd_prog_4_method_8_code_50 : decode prog_4_method_8_code 50 = .ok (.iastore, 1) := by decide +kernel
theorem kd_prog_4_method_8_code_51 : decode prog_4_method_8_code 51 = .ok (.aload_n 0, 1) := by decide +kernel
theorem kd_prog_4_method_8_code_52 : decode prog_4_method_8_code 52 = .ok (.getfield 43, 3) := by decide +kernel
theorem kd_prog_4_method_8_code_55 : decode prog_4_method_8_code 55 = .ok (.iload 4, 2) := by decide +kernel
theorem kd_prog_4_method_8_code_57 : decode prog_4_method_8_code 57 = .ok (.iload_n 2, 1) := by decide +kernel
theorem kd_prog_4_method_8_code_58 : decode prog_4_method_8_code 58 = .ok (.iastore, 1) := by decide +kernel
theorem kd_prog_4_method_8_code_59 : decode prog_4_method_8_code 59 = .ok (.aload_n 0, 1) := by decide +kernel
theorem kd_prog_4_method_8_code_60 : decode prog_4_method_8_code 60 = .ok (.getfield 46, 3) := by decide +kernel
theorem kd_prog_4_method_8_code_63 : decode prog_4_method_8_code 63 = .ok (.iload 4, 2) := by decide +kernel
theorem kd_prog_4_method_8_code_65 : decode prog_4_method_8_code 65 = .ok (.iload_n 3, 1) := by decide +kernel
theorem kd_prog_4_method_8_code_66 : decode prog_4_method_8_code 66 = .ok (.iastore, 1) := by decide +kernel
theorem kd_prog_4_method_8_code_67 : decode prog_4_method_8_code 67 = .ok (.aload_n 0, 1) := by decide +kernel
theorem kd_prog_4_method_8_code_68 : decode prog_4_method_8_code 68 = .ok (.getfield 49, 3) := by decide +kernel
theorem kd_prog_4_method_8_code_71 : decode prog_4_method_8_code 71 = .ok (.iload_n 1, 1) := by decide +kernel
theorem kd_prog_4_method_8_code_72 : decode prog_4_method_8_code 72 = .ok (.dup2, 1) := by decide +kernel
theorem kd_prog_4_method_8_code_73 : decode prog_4_method_8_code 73 = .ok (.laload, 1) := by decide +kernel
theorem kd_prog_4_method_8_code_74 : decode prog_4_method_8_code 74 = .ok (.lconst 1, 1) := by decide +kernel
theorem kd_prog_4_method_8_code_75 : decode prog_4_method_8_code 75 = .ok (.iload 4, 2) := by decide +kernel
theorem kd_prog_4_method_8_code_77 : decode prog_4_method_8_code 77 = .ok (.lshl, 1) := by decide +kernel
theorem kd_prog_4_method_8_code_78 : decode prog_4_method_8_code 78 = .ok (.lor, 1) := by decide +kernel
theorem kd_prog_4_method_8_code_79 : decode prog_4_method_8_code 79 = .ok (.lastore, 1) := by decide +kernel
theorem kd_prog_4_method_8_code_80 : decode prog_4_method_8_code 80 = .ok (.aload_n 0, 1) := by decide +kernel
theorem kd_prog_4_method_8_code_81 : decode prog_4_method_8_code 81 = .ok (.getfield 49, 3) := by decide +kernel
theorem kd_prog_4_method_8_code_84 : decode prog_4_method_8_code 84 = .ok (.iload_n 3, 1) := by decide +kernel
theorem kd_prog_4_method_8_code_85 : decode prog_4_method_8_code 85 = .ok (.dup2, 1) := by decide +kernel
theorem kd_prog_4_method_8_code_86 : decode prog_4_method_8_code 86 = .ok (.laload, 1) := by decide +kernel
theorem kd_prog_4_method_8_code_87 : decode prog_4_method_8_code 87 = .ok (.lconst 1, 1) := by decide +kernel
theorem kd_prog_4_method_8_code_88 : decode prog_4_method_8_code 88 = .ok (.iload 4, 2) := by decide +kernel
theorem kd_prog_4_method_8_code_90 : decode prog_4_method_8_code 90 = .ok (.lshl, 1) := by decide +kernel
theorem kd_prog_4_method_8_code_91 : decode prog_4_method_8_code 91 = .ok (.lor, 1) := by decide +kernel
theorem kd_prog_4_method_8_code_92 : decode prog_4_method_8_code 92 = .ok (.lastore, 1) := by decide +kernel
theorem kd_prog_4_method_8_code_93 : decode prog_4_method_8_code 93 = .ok (.iload 4, 2) := by decide +kernel
theorem kd_prog_4_method_8_code_95 : decode prog_4_method_8_code 95 = .ok (.ireturn, 1) := by decide +kernel
theorem kd_prog_4_method_2_code_0 : decode prog_4_method_2_code 0 = .ok (.iload_n 1, 1) := by decide +kernel
theorem kd_prog_4_method_2_code_1 : decode prog_4_method_2_code 1 = .ok (.ifCond .lt 15, 3) := by decide +kernel
theorem kd_prog_4_method_2_code_4 : decode prog_4_method_2_code 4 = .ok (.iload_n 1, 1) := by decide +kernel
theorem kd_prog_4_method_2_code_5 : decode prog_4_method_2_code 5 = .ok (.aload_n 0, 1) := by decide +kernel
theorem kd_prog_4_method_2_code_6 : decode prog_4_method_2_code 6 = .ok (.getfield 9, 3) := by decide +kernel
theorem kd_prog_4_method_2_code_9 : decode prog_4_method_2_code 9 = .ok (.if_icmp .ge 7, 3) := by decide +kernel
theorem kd_prog_4_method_2_code_12 : decode prog_4_method_2_code 12 = .ok (.iconst 1, 1) := by decide +kernel
theorem kd_prog_4_method_2_code_13 : decode prog_4_method_2_code 13 = .ok (.goto 4, 3) := by decide +kernel
theorem kd_prog_4_method_2_code_16 : decode prog_4_method_2_code 16 = .ok (.iconst 0, 1) := by decide +kernel
theorem kd_prog_4_method_2_code_17 : decode prog_4_method_2_code 17 = .ok (.ireturn, 1) := by decide +kernel
theorem kd_prog_4_method_9_code_0 : decode prog_4_method_9_code 0 = .ok (.iconst 0, 1) := by decide +kernel
theorem kd_prog_4_method_9_code_1 : decode prog_4_method_9_code 1 = .ok (.istore_n 1, 1) := by decide +kernel
theorem kd_prog_4_method_9_code_2 : decode prog_4_method_9_code 2 = .ok (.iload_n 1, 1) := by decide +kernel
theorem kd_prog_4_method_9_code_3 : decode prog_4_method_9_code 3 = .ok (.aload_n 0, 1) := by decide +kernel
theorem kd_prog_4_method_9_code_4 : decode prog_4_method_9_code 4 = .ok (.getfield 9, 3) := by decide +kernel
theorem kd_prog_4_method_9_code_7 : decode prog_4_method_9_code 7 = .ok (.if_icmp .ge 37, 3) := by decide +kernel
theorem kd_prog_4_method_9_code_10 : decode prog_4_method_9_code 10 = .ok (.aload_n 0, 1) := by decide +kernel
theorem kd_prog_4_method_9_code_11 : decode prog_4_method_9_code 11 = .ok (.getfield 34, 3) := by decide +kernel
theorem kd_prog_4_method_9_code_14 : decode prog_4_method_9_code 14 = .ok (.iload_n 1, 1) := by decide +kernel
theorem kd_prog_4_method_9_code_15 : decode prog_4_method_9_code 15 = .ok (.iaload, 1) := by decide +kernel
theorem kd_prog_4_method_9_code_16 : decode prog_4_method_9_code 16 = .ok (.aload_n 0, 1) := by decide +kernel
theorem kd_prog_4_method_9_code_17 : decode prog_4_method_9_code 17 = .ok (.getfield 9, 3) := by decide +kernel
theorem kd_prog_4_method_9_code_20 : decode prog_4_method_9_code 20 = .ok (.if_icmp .ge 16, 3) := by decide +kernel
theorem kd_prog_4_method_9_code_23 : decode prog_4_method_9_code 23 = .ok (.aload_n 0, 1) := by decide +kernel
theorem kd_prog_4_method_9_code_24 : decode prog_4_method_9_code 24 = .ok (.getfield 37, 3) := by decide +kernel
theorem kd_prog_4_method_9_code_27 : decode prog_4_method_9_code 27 = .ok (.iload_n 1, 1) := by decide +kernel
theorem kd_prog_4_method_9_code_28 : decode prog_4_method_9_code 28 = .ok (.iaload, 1) := by decide +kernel
theorem kd_prog_4_method_9_code_29 : decode prog_4_method_9_code 29 = .ok (.aload_n 0, 1) := by decide +kernel
theorem kd_prog_4_method_9_code_30 : decode prog_4_method_9_code 30 = .ok (.getfield 9, 3) := by decide +kernel
theorem kd_prog_4_method_9_code_33 : decode prog_4_method_9_code 33 = .ok (.if_icmp .lt 5, 3) := by decide +kernel
theorem kd_prog_4_method_9_code_36 : decode prog_4_method_9_code 36 = .ok (.iconst 0, 1) := by decide +kernel
theorem kd_prog_4_method_9_code_37 : decode prog_4_method_9_code 37 = .ok (.ireturn, 1) := by decide +kernel
theorem kd_prog_4_method_9_code_38 : decode prog_4_method_9_code 38 = .ok (.iinc 1 1, 3) := by decide +kernel
theorem kd_prog_4_method_9_code_41 : decode prog_4_method_9_code 41 = .ok (.goto (-39), 3) := by decide +kernel
theorem kd_prog_4_method_9_code_44 : decode prog_4_method_9_code 44 = .ok (.iconst 1, 1) := by decide +kernel
theorem kd_prog_4_method_9_code_45 : decode prog_4_method_9_code 45 = .ok (.ireturn, 1) := by decide +kernel
theorem kd_prog_11_method_50_code_0 : decode prog_11_method_50_code 0 = .ok (.lload_n 0, 1) := by decide +kernel
theorem kd_prog_11_method_50_code_1 : decode prog_11_method_50_code 1 = .ok (.lload_n 0, 1) := by decide +kernel
theorem kd_prog_11_method_50_code_2 : decode prog_11_method_50_code 2 = .ok (.iconst 1, 1) := by decide +kernel
theorem kd_prog_11_method_50_code_3 : decode prog_11_method_50_code 3 = .ok (.lushr, 1) := by decide +kernel
theorem kd_prog_11_method_50_code_4 : decode prog_11_method_50_code 4 = .ok (.ldc2_w 314, 3) := by decide +kernel
theorem kd_prog_11_method_50_code_7 : decode prog_11_method_50_code 7 = .ok (.land, 1) := by decide +kernel
theorem kd_prog_11_method_50_code_8 : decode prog_11_method_50_code 8 = .ok (.lsub, 1) := by decide +kernel
theorem kd_prog_11_method_50_code_9 : decode prog_11_method_50_code 9 = .ok (.lstore_n 0, 1) := by decide +kernel
theorem kd_prog_11_method_50_code_10 : decode prog_11_method_50_code 10 = .ok (.lload_n 0, 1) := by decide +kernel
theorem kd_prog_11_method_50_code_11 : decode prog_11_method_50_code 11 = .ok (.ldc2_w 316, 3) := by decide +kernel
theorem kd_prog_11_method_50_code_14 : decode prog_11_method_50_code 14 = .ok (.land, 1) := by decide +kernel
theorem kd_prog_11_method_50_code_15 : decode prog_11_method_50_code 15 = .ok (.lload_n 0, 1) := by decide +kernel
theorem kd_prog_11_method_50_code_16 : decode prog_11_method_50_code 16 = .ok (.iconst 2, 1) := by decide +kernel
theorem kd_prog_11_method_50_code_17 : decode prog_11_method_50_code 17 = .ok (.lushr, 1) := by decide +kernel
theorem kd_prog_11_method_50_code_18 : decode prog_11_method_50_code 18 = .ok (.ldc2_w 316, 3) := by decide +kernel
theorem kd_prog_11_method_50_code_21 : decode prog_11_method_50_code 21 = .ok (.land, 1) := by decide +kernel
theorem kd_prog_11_method_50_code_22 : decode prog_11_method_50_code 22 = .ok (.ladd, 1) := by decide +kernel
theorem kd_prog_11_method_50_code_23 : decode prog_11_method_50_code 23 = .ok (.lstore_n 0, 1) := by decide +kernel
theorem kd_prog_11_method_50_code_24 : decode prog_11_method_50_code 24 = .ok (.lload_n 0, 1) := by decide +kernel
theorem kd_prog_11_method_50_code_25 : decode prog_11_method_50_code 25 = .ok (.lload_n 0, 1) := by decide +kernel
theorem kd_prog_11_method_50_code_26 : decode prog_11_method_50_code 26 = .ok (.iconst 4, 1) := by decide +kernel
theorem kd_prog_11_method_50_code_27 : decode prog_11_method_50_code 27 = .ok (.lushr, 1) := by decide +kernel
theorem kd_prog_11_method_50_code_28 : decode prog_11_method_50_code 28 = .ok (.ladd, 1) := by decide +kernel
theorem kd_prog_11_method_50_code_29 : decode prog_11_method_50_code 29 = .ok (.ldc2_w 318, 3) := by decide +kernel
theorem kd_prog_11_method_50_code_32 : decode prog_11_method_50_code 32 = .ok (.land, 1) := by decide +kernel
theorem kd_prog_11_method_50_code_33 : decode prog_11_method_50_code 33 = .ok (.lstore_n 0, 1) := by decide +kernel
theorem kd_prog_11_method_50_code_34 : decode prog_11_method_50_code 34 = .ok (.lload_n 0, 1) := by decide +kernel
theorem kd_prog_11_method_50_code_35 : decode prog_11_method_50_code 35 = .ok (.lload_n 0, 1) := by decide +kernel
theorem kd_prog_11_method_50_code_36 : decode prog_11_method_50_code 36 = .ok (.bipush 8, 2) := by decide +kernel
theorem kd_prog_11_method_50_code_38 : decode prog_11_method_50_code 38 = .ok (.lushr, 1) := by decide +kernel
theorem kd_prog_11_method_50_code_39 : decode prog_11_method_50_code 39 = .ok (.ladd, 1) := by decide +kernel
theorem kd_prog_11_method_50_code_40 : decode prog_11_method_50_code 40 = .ok (.lstore_n 0, 1) := by decide +kernel
theorem kd_prog_11_method_50_code_41 : decode prog_11_method_50_code 41 = .ok (.lload_n 0, 1) := by decide +kernel
theorem kd_prog_11_method_50_code_42 : decode prog_11_method_50_code 42 = .ok (.lload_n 0, 1) := by decide +kernel
theorem kd_prog_11_method_50_code_43 : decode prog_11_method_50_code 43 = .ok (.bipush 16, 2) := by decide +kernel
theorem kd_prog_11_method_50_code_45 : decode prog_11_method_50_code 45 = .ok (.lushr, 1) := by decide +kernel
theorem kd_prog_11_method_50_code_46 : decode prog_11_method_50_code 46 = .ok (.ladd, 1) := by decide +kernel
theorem kd_prog_11_method_50_code_47 : decode prog_11_method_50_code 47 = .ok (.lstore_n 0, 1) := by decide +kernel
theorem kd_prog_11_method_50_code_48 : decode prog_11_method_50_code 48 = .ok (.lload_n 0, 1) := by decide +kernel
theorem kd_prog_11_method_50_code_49 : decode prog_11_method_50_code 49 = .ok (.lload_n 0, 1) := by decide +kernel
theorem kd_prog_11_method_50_code_50 : decode prog_11_method_50_code 50 = .ok (.bipush 32, 2) := by decide +kernel
theorem kd_prog_11_method_50_code_52 : decode prog_11_method_50_code 52 = .ok (.lushr, 1) := by decide +kernel
theorem kd_prog_11_method_50_code_53 : decode prog_11_method_50_code 53 = .ok (.ladd, 1) := by decide +kernel
theorem kd_prog_11_method_50_code_54 : decode prog_11_method_50_code 54 = .ok (.lstore_n 0, 1) := by decide +kernel
theorem kd_prog_11_method_50_code_55 : decode prog_11_method_50_code 55 = .ok (.lload_n 0, 1) := by decide +kernel
theorem kd_prog_11_method_50_code_56 : decode prog_11_method_50_code 56 = .ok (.l2i, 1) := by decide +kernel
theorem kd_prog_11_method_50_code_57 : decode prog_11_method_50_code 57 = .ok (.bipush 127, 2) := by decide +kernel
theorem kd_prog_11_method_50_code_59 : decode prog_11_method_50_code 59 = .ok (.iand, 1) := by decide +kernel
theorem kd_prog_11_method_50_code_60 : decode prog_11_method_50_code 60 = .ok (.ireturn, 1) := by decide +kernel
theorem kd_prog_16_method_103_code_0 : decode prog_16_method_103_code 0 = .ok (.iconst 0, 1) := by decide +kernel
theorem kd_prog_16_method_103_code_1 : decode prog_16_method_103_code 1 = .ok (.istore_n 2, 1) := by decide +kernel
theorem kd_prog_16_method_103_code_2 : decode prog_16_method_103_code 2 = .ok (.aload_n 0, 1) := by decide +kernel
theorem kd_prog_16_method_103_code_3 : decode prog_16_method_103_code 3 = .ok (.arraylength, 1) := by decide +kernel
theorem kd_prog_16_method_103_code_4 : decode prog_16_method_103_code 4 = .ok (.istore_n 3, 1) := by decide +kernel
theorem kd_prog_16_method_103_code_5 : decode prog_16_method_103_code 5 = .ok (.iload_n 2, 1) := by decide +kernel
theorem kd_prog_16_method_103_code_6 : decode prog_16_method_103_code 6 = .ok (.iload_n 3, 1) := by decide +kernel
theorem kd_prog_16_method_103_code_7 : decode prog_16_method_103_code 7 = .ok (.if_icmp .ge 13, 3) := by decide +kernel
theorem kd_prog_16_method_103_code_10 : decode prog_16_method_103_code 10 = .ok (.aload_n 0, 1) := by decide +kernel
theorem kd_prog_16_method_103_code_11 : decode prog_16_method_103_code 11 = .ok (.iload_n 2, 1) := by decide +kernel
theorem kd_prog_16_method_103_code_12 : decode prog_16_method_103_code 12 = .ok (.iload_n 1, 1) := by decide +kernel
theorem kd_prog_16_method_103_code_13 : decode prog_16_method_103_code 13 = .ok (.iastore, 1) := by decide +kernel
theorem kd_prog_16_method_103_code_14 : decode prog_16_method_103_code 14 = .ok (.iinc 2 1, 3) := by decide +kernel
theorem kd_prog_16_method_103_code_17 : decode prog_16_method_103_code 17 = .ok (.goto (-12), 3) := by decide +kernel
theorem kd_prog_16_method_103_code_20 : decode prog_16_method_103_code 20 = .ok (.return_, 1) := by decide +kernel
theorem kd_prog_4_method_10_code_0 : decode prog_4_method_10_code 0 = .ok (.aload_n 2, 1) := by decide +kernel
theorem kd_prog_4_method_10_code_1 : decode prog_4_method_10_code 1 = .ok (.aload_n 0, 1) := by decide +kernel
theorem kd_prog_4_method_10_code_2 : decode prog_4_method_10_code 2 = .ok (.getfield 40, 3) := by decide +kernel
theorem kd_prog_4_method_10_code_5 : decode prog_4_method_10_code 5 = .ok (.iload_n 1, 1) := by decide +kernel
theorem kd_prog_4_method_10_code_6 : decode prog_4_method_10_code 6 = .ok (.iaload, 1) := by decide +kernel
theorem kd_prog_4_method_10_code_7 : decode prog_4_method_10_code 7 = .ok (.iaload, 1) := by decide +kernel
theorem kd_prog_4_method_10_code_8 : decode prog_4_method_10_code 8 = .ok (.istore_n 3, 1) := by decide +kernel
theorem kd_prog_4_method_10_code_9 : decode prog_4_method_10_code 9 = .ok (.aload_n 2, 1) := by decide +kernel
theorem kd_prog_4_method_10_code_10 : decode prog_4_method_10_code 10 = .ok (.aload_n 0, 1) := by decide +kernel
theorem kd_prog_4_method_10_code_11 : decode prog_4_method_10_code 11 = .ok (.getfield 46, 3) := by decide +kernel
theorem kd_prog_4_method_10_code_14 : decode prog_4_method_10_code 14 = .ok (.iload_n 1, 1) := by decide +kernel
theorem kd_prog_4_method_10_code_15 : decode prog_4_method_10_code 15 = .ok (.iaload, 1) := by decide +kernel
theorem kd_prog_4_method_10_code_16 : decode prog_4_method_10_code 16 = .ok (.iaload, 1) := by decide +kernel
theorem kd_prog_4_method_10_code_17 : decode prog_4_method_10_code 17 = .ok (.istore 4, 2) := by decide +kernel
theorem kd_prog_4_method_10_code_19 : decode prog_4_method_10_code 19 = .ok (.aload_n 0, 1) := by decide +kernel
theorem kd_prog_4_method_10_code_20 : decode prog_4_method_10_code 20 = .ok (.getfield 43, 3) := by decide +kernel
theorem kd_prog_4_method_10_code_23 : decode prog_4_method_10_code 23 = .ok (.iload_n 1, 1) := by decide +kernel
theorem kd_prog_4_method_10_code_24 : decode prog_4_method_10_code 24 = .ok (.iaload, 1) := by decide +kernel
theorem kd_prog_4_method_10_code_25 : decode prog_4_method_10_code 25 = .ok (.tableswitch 51 0 3 #[31, 36, 41, 46], 31) := by decide +kernel
theorem kd_prog_4_method_10_code_56 : decode prog_4_method_10_code 56 = .ok (.iload_n 3, 1) := by decide +kernel
theorem kd_prog_4_method_10_code_57 : decode prog_4_method_10_code 57 = .ok (.iload 4, 2) := by decide +kernel
theorem kd_prog_4_method_10_code_59 : decode prog_4_method_10_code 59 = .ok (.iadd, 1) := by decide +kernel
theorem kd_prog_4_method_10_code_60 : decode prog_4_method_10_code 60 = .ok (.ireturn, 1) := by decide +kernel
theorem kd_prog_4_method_10_code_61 : decode prog_4_method_10_code 61 = .ok (.iload_n 3, 1) := by decide +kernel
theorem kd_prog_4_method_10_code_62 : decode prog_4_method_10_code 62 = .ok (.iload 4, 2) := by decide +kernel
theorem kd_prog_4_method_10_code_64 : decode prog_4_method_10_code 64 = .ok (.isub, 1) := by decide +kernel
theorem kd_prog_4_method_10_code_65 : decode prog_4_method_10_code 65 = .ok (.ireturn, 1) := by decide +kernel
theorem kd_prog_4_method_10_code_66 : decode prog_4_method_10_code 66 = .ok (.iload_n 3, 1) := by decide +kernel
theorem kd_prog_4_method_10_code_67 : decode prog_4_method_10_code 67 = .ok (.iload 4, 2) := by decide +kernel
theorem kd_prog_4_method_10_code_69 : decode prog_4_method_10_code 69 = .ok (.imul, 1) := by decide +kernel
theorem kd_prog_4_method_10_code_70 : decode prog_4_method_10_code 70 = .ok (.ireturn, 1) := by decide +kernel
theorem kd_prog_4_method_10_code_71 : decode prog_4_method_10_code 71 = .ok (.iload_n 3, 1) := by decide +kernel
theorem kd_prog_4_method_10_code_72 : decode prog_4_method_10_code 72 = .ok (.iload 4, 2) := by decide +kernel
theorem kd_prog_4_method_10_code_74 : decode prog_4_method_10_code 74 = .ok (.iand, 1) := by decide +kernel
theorem kd_prog_4_method_10_code_75 : decode prog_4_method_10_code 75 = .ok (.ireturn, 1) := by decide +kernel
theorem kd_prog_4_method_10_code_76 : decode prog_4_method_10_code 76 = .ok (.iload_n 3, 1) := by decide +kernel
theorem kd_prog_4_method_10_code_77 : decode prog_4_method_10_code 77 = .ok (.iload 4, 2) := by decide +kernel
theorem kd_prog_4_method_10_code_79 : decode prog_4_method_10_code 79 = .ok (.if_icmp .ge 7, 3) := by decide +kernel
theorem kd_prog_4_method_10_code_82 : decode prog_4_method_10_code 82 = .ok (.iconst 1, 1) := by decide +kernel
theorem kd_prog_4_method_10_code_83 : decode prog_4_method_10_code 83 = .ok (.goto 4, 3) := by decide +kernel
theorem kd_prog_4_method_10_code_86 : decode prog_4_method_10_code 86 = .ok (.iconst 0, 1) := by decide +kernel
theorem kd_prog_4_method_10_code_87 : decode prog_4_method_10_code 87 = .ok (.ireturn, 1) := by decide +kernel
theorem kd_prog_4_method_6_code_0 : decode prog_4_method_6_code 0 = .ok (.aload_n 0, 1) := by decide +kernel
theorem kd_prog_4_method_6_code_1 : decode prog_4_method_6_code 1 = .ok (.getfield 9, 3) := by decide +kernel
theorem kd_prog_4_method_6_code_4 : decode prog_4_method_6_code 4 = .ok (.iconst 1, 1) := by decide +kernel
theorem kd_prog_4_method_6_code_5 : decode prog_4_method_6_code 5 = .ok (.isub, 1) := by decide +kernel
theorem kd_prog_4_method_6_code_6 : decode prog_4_method_6_code 6 = .ok (.istore 4, 2) := by decide +kernel
theorem kd_prog_4_method_6_code_8 : decode prog_4_method_6_code 8 = .ok (.iload 4, 2) := by decide +kernel
theorem kd_prog_4_method_6_code_10 : decode prog_4_method_6_code 10 = .ok (.iconst 5, 1) := by decide +kernel
theorem kd_prog_4_method_6_code_11 : decode prog_4_method_6_code 11 = .ok (.imul, 1) := by decide +kernel
theorem kd_prog_4_method_6_code_12 : decode prog_4_method_6_code 12 = .ok (.aload_n 0, 1) := by decide +kernel
theorem kd_prog_4_method_6_code_13 : decode prog_4_method_6_code 13 = .ok (.getfield 18, 3) := by decide +kernel
theorem kd_prog_4_method_6_code_16 : decode prog_4_method_6_code 16 = .ok (.iload 4, 2) := by decide +kernel
theorem kd_prog_4_method_6_code_18 : decode prog_4_method_6_code 18 = .ok (.iaload, 1) := by decide +kernel
theorem kd_prog_4_method_6_code_19 : decode prog_4_method_6_code 19 = .ok (.iadd, 1) := by decide +kernel
theorem kd_prog_4_method_6_code_20 : decode prog_4_method_6_code 20 = .ok (.istore 5, 2) := by decide +kernel
theorem kd_prog_4_method_6_code_22 : decode prog_4_method_6_code 22 = .ok (.aload_n 0, 1) := by decide +kernel
theorem kd_prog_4_method_6_code_23 : decode prog_4_method_6_code 23 = .ok (.getfield 22, 3) := by decide +kernel
theorem kd_prog_4_method_6_code_26 : decode prog_4_method_6_code 26 = .ok (.iload 5, 2) := by decide +kernel
theorem kd_prog_4_method_6_code_28 : decode prog_4_method_6_code 28 = .ok (.iload_n 1, 1) := by decide +kernel
theorem kd_prog_4_method_6_code_29 : decode prog_4_method_6_code 29 = .ok (.iastore, 1) := by decide +kernel
theorem kd_prog_4_method_6_code_30 : decode prog_4_method_6_code 30 = .ok (.aload_n 0, 1) := by decide +kernel
theorem kd_prog_4_method_6_code_31 : decode prog_4_method_6_code 31 = .ok (.getfield 25, 3) := by decide +kernel
theorem kd_prog_4_method_6_code_34 : decode prog_4_method_6_code 34 = .ok (.iload 5, 2) := by decide +kernel
theorem kd_prog_4_method_6_code_36 : decode prog_4_method_6_code 36 = .ok (.iload_n 2, 1) := by decide +kernel
theorem kd_prog_4_method_6_code_37 : decode prog_4_method_6_code 37 = .ok (.iastore, 1) := by decide +kernel
theorem kd_prog_4_method_6_code_38 : decode prog_4_method_6_code 38 = .ok (.aload_n 0, 1) := by decide +kernel
theorem kd_prog_4_method_6_code_39 : decode prog_4_method_6_code 39 = .ok (.getfield 28, 3) := by decide +kernel
theorem kd_prog_4_method_6_code_42 : decode prog_4_method_6_code 42 = .ok (.iload 5, 2) := by decide +kernel
theorem kd_prog_4_method_6_code_44 : decode prog_4_method_6_code 44 = .ok (.iload_n 3, 1) := by decide +kernel
theorem kd_prog_4_method_6_code_45 : decode prog_4_method_6_code 45 = .ok (.iastore, 1) := by decide +kernel
theorem kd_prog_4_method_6_code_46 : decode prog_4_method_6_code 46 = .ok (.aload_n 0, 1) := by decide +kernel
theorem kd_prog_4_method_6_code_47 : decode prog_4_method_6_code 47 = .ok (.getfield 18, 3) := by decide +kernel
theorem kd_prog_4_method_6_code_50 : decode prog_4_method_6_code 50 = .ok (.iload 4, 2) := by decide +kernel
theorem kd_prog_4_method_6_code_52 : decode prog_4_method_6_code 52 = .ok (.dup2, 1) := by decide +kernel
theorem kd_prog_4_method_6_code_53 : decode prog_4_method_6_code 53 = .ok (.iaload, 1) := by decide +kernel
theorem kd_prog_4_method_6_code_54 : decode prog_4_method_6_code 54 = .ok (.iconst 1, 1) := by decide +kernel
theorem kd_prog_4_method_6_code_55 : decode prog_4_method_6_code 55 = .ok (.iadd, 1) := by decide +kernel
theorem kd_prog_4_method_6_code_56 : decode prog_4_method_6_code 56 = .ok (.iastore, 1) := by decide +kernel
theorem kd_prog_4_method_6_code_57 : decode prog_4_method_6_code 57 = .ok (.aload_n 0, 1) := by decide +kernel
theorem kd_prog_4_method_6_code_58 : decode prog_4_method_6_code 58 = .ok (.getfield 18, 3) := by decide +kernel
theorem kd_prog_4_method_6_code_61 : decode prog_4_method_6_code 61 = .ok (.iload 4, 2) := by decide +kernel
theorem kd_prog_4_method_6_code_63 : decode prog_4_method_6_code 63 = .ok (.iaload, 1) := by decide +kernel
theorem kd_prog_4_method_6_code_64 : decode prog_4_method_6_code 64 = .ok (.ireturn, 1) := by decide +kernel
section
variable {p : Program} {l : Launch} {e : Env} {R : Room} {s : State} {m : MethodId} {args : Array Value} {below : List Frame} {meth : Method} {c : Code} {Q : State → Prop} {ce sl : Nat} {D : va_G} {q : Nat → Nat} {cA : Nat → ClassId} {A : Nat → Prop}
set_option maxHeartbeats 4000000 in
set_option maxRecDepth 100000 in
theorem w_P_changeEnd (hx : p.tables.exec = Jvm.exec) (hb : c.code = prog_4_method_4_code) (hml : c.maxLocals = 5) (hown : s.vm.findClass kr_P = some m.cls) (hts : ∀ w ∈ lw_g, w.before args s = true) (hRf : 0 ≤ R.frames) (hRl : 0 ≤ R.locals) (hce : ce ≤ R.cells) (hsl : sl ≤ R.slots) (hA : ∀ x, s.heap.size ≤ x → A x) (hK : va_K D wk_cl (tysW cA) s) (x1 : Int32) (x2 : Int32) (x3 : Int32) (x4 : Int32) (z : Sta) (K : Int32 → Sta → Prop) (h : wp_P_changeEnd x1 x2 x3 x4 z K) (hret : ∀ (r : Int32) (u : Sta) (H : Heap) (locs : List Loc) (pc : Nat) (ls : Array Slot), K r u → wk_S D q cA A s.heap u H locs → decode prog_4_method_4_code pc = .ok (.ireturn, 1) → W p l e R s m args below meth c H locs ce sl Q (F0 m pc ls [.int r])) {H : Heap} {locs : List Loc} {ls : Array Slot} (hV : wk_S D q cA A s.heap z H locs) (hl : lv_has ls 5 [(0, .ref (q 1)), (1, .int x1), (2, .int x2), (3, .int x3), (4, .int x4)]) : W p l e R s m args below meth c H locs ce sl Q (F0 m 0 ls []) := by
  have J40 : ∀ (y0 : Int32) (z : Sta) (H : Heap) (locs : List Loc) (ls : Array Slot), wk_S D q cA A s.heap z H locs → lv_has ls 5 [] → pj_P_changeEnd_40 K y0 z → W p l e R s m args below meth c H locs ce sl Q (F0 m 40 ls [.int y0]) := by
    intro y0 z H locs ls hV hl h
    unfold pj_P_changeEnd_40 at h
    exact hret y0 z H locs 40 ls h hV kd_prog_4_method_4_code_40
  unfold wp_P_changeEnd at h
  refine lv_aload_n hx hb kd_prog_4_method_4_code_0 rfl (lv_at hl 0 rfl) ?_
  refine va_get (D := D) (ci := 1) (v := .ref (q 9)) (C := kr_P) (T := kt_P) (N := kn_P) hx hb hts ki_P hown hK hV.1 1 rfl rfl 6 (by decide) (hts _ hw_49) (fun _ h9 => h9) rfl kd_prog_4_method_4_code_1 ?_
  refine lv_iload_n hx hb kd_prog_4_method_4_code_4 rfl (lv_at hl 1 rfl) ?_
  refine lv_iload_n hx hb kd_prog_4_method_4_code_5 rfl (lv_at hl 2 rfl) ?_
  obtain ⟨hin, h⟩ := h
  refine wk_iast hx hb hK hV 9 4 4 rfl rfl (ks_9 q cA z) hin kd_prog_4_method_4_code_6 (fun H locs hV => ?_)
  obtain ⟨z1, ez1⟩ : ∃ x : Sta, x = zA z 4 (upd (z.2.1 4) x1.toNatClampNeg x2) := ⟨_, rfl⟩
  rw [← ez1] at hV
  have h := h z1 ez1
  refine lv_aload_n hx hb kd_prog_4_method_4_code_7 rfl (lv_at hl 0 rfl) ?_
  refine va_get (D := D) (ci := 1) (v := .ref (q 10)) (C := kr_P) (T := kt_P) (N := kn_P) hx hb hts ki_P hown hK hV.1 1 rfl rfl 7 (by decide) (hts _ hw_51) (fun _ h9 => h9) rfl kd_prog_4_method_4_code_8 ?_
  refine lv_iload_n hx hb kd_prog_4_method_4_code_11 rfl (lv_at hl 1 rfl) ?_
  refine lv_iload_n hx hb kd_prog_4_method_4_code_12 rfl (lv_at hl 3 rfl) ?_
  obtain ⟨hin, h⟩ := h
  refine wk_iast hx hb hK hV 10 5 5 rfl rfl (ks_10 q cA z1) hin kd_prog_4_method_4_code_13 (fun H locs hV => ?_)
  obtain ⟨z2, ez2⟩ : ∃ x : Sta, x = zA z1 5 (upd (z1.2.1 5) x1.toNatClampNeg x3) := ⟨_, rfl⟩
  rw [← ez2] at hV
  have h := h z2 ez2
  refine lv_aload_n hx hb kd_prog_4_method_4_code_14 rfl (lv_at hl 0 rfl) ?_
  refine va_get (D := D) (ci := 1) (v := .ref (q 11)) (C := kr_P) (T := kt_P) (N := kn_P) hx hb hts ki_P hown hK hV.1 1 rfl rfl 8 (by decide) (hts _ hw_54) (fun _ h9 => h9) rfl kd_prog_4_method_4_code_15 ?_
  refine lv_iload_n hx hb kd_prog_4_method_4_code_18 rfl (lv_at hl 1 rfl) ?_
  refine lv_iload hx hb kd_prog_4_method_4_code_19 (lv_at hl 4 rfl) ?_
  obtain ⟨hin, h⟩ := h
  refine wk_iast hx hb hK hV 11 6 6 rfl rfl (ks_11 q cA z2) hin kd_prog_4_method_4_code_21 (fun H locs hV => ?_)
  obtain ⟨z3, ez3⟩ : ∃ x : Sta, x = zA z2 6 (upd (z2.2.1 6) x1.toNatClampNeg x4) := ⟨_, rfl⟩
  rw [← ez3] at hV
  have h := h z3 ez3
  refine lv_iload_n hx hb kd_prog_4_method_4_code_22 rfl (lv_at hl 3 rfl) ?_
  refine lv_iconst (v := (-1)) hx hb kd_prog_4_method_4_code_23 (by decide) ?_
  refine lv_icmp_ne (tgt := 29) hx hb kd_prog_4_method_4_code_24 (by decide) (fun hc => ?_) (fun hc => ?_)
  · have h := h.1 hc
    refine lv_iload_n hx hb kd_prog_4_method_4_code_29 rfl (lv_at hl 3 rfl) ?_
    refine lv_iload hx hb kd_prog_4_method_4_code_30 (lv_at hl 4 rfl) ?_
    refine lv_icmp_ne (tgt := 39) hx hb kd_prog_4_method_4_code_32 (by decide) (fun hc => ?_) (fun hc => ?_)
    · have h := h.1 hc
      refine lv_iconst (v := 2) hx hb kd_prog_4_method_4_code_39 (by decide) ?_
      exact J40 2 z3 H locs ls hV (lv_sub hl [] rfl) h
    · have h := h.2 hc
      refine lv_iconst (v := 1) hx hb kd_prog_4_method_4_code_35 (by decide) ?_
      refine lv_goto (tgt := 40) hx hb kd_prog_4_method_4_code_36 (by decide) ?_
      exact J40 1 z3 H locs ls hV (lv_sub hl [] rfl) h
  · have h := h.2 hc
    refine lv_iconst (v := 0) hx hb kd_prog_4_method_4_code_27 (by decide) ?_
    exact hret 0 z3 H locs 28 ls h hV kd_prog_4_method_4_code_28
end
set_option maxHeartbeats 4000000 in
set_option maxRecDepth 100000 in
theorem c_P_changeEnd (l : Launch) (D : va_G) (q : Nat → Nat) (cA : Nat → ClassId) (x1 : Int32) (x2 : Int32) (x3 : Int32) (x4 : Int32) (z : Sta) (sz : Nat) (K : Int32 → Sta → Prop) (h : wp_P_changeEnd x1 x2 x3 x4 z K) : Met l ke_P_changeEnd (kc_P_changeEnd :: lw_g) { frames := 0, cells := 0, slots := 0, locals := 0 } (wk_Pc D q cA [.ref (q 1), .int x1, .int x2, .int x3, .int x4] z sz) (va_Qi K (wk_B D q cA (va_A (wW q cA z) sz)) (va_A (wW q cA z) sz)) 0 0 (va_A (wW q cA z) sz) := by
  refine Met.ofW (cc := prog_4_method_4_code) (maxL := 5) (ret := (some .int)) (by decide) rfl ?_
  intro p e s m args below meth c s₁ B hml hv
  obtain ⟨rfl, hsz, hP, hK, hD0⟩ := hv
  have hx := B.exec
  have hb := B.bytes
  have hr := B.returns
  have hlocks := B.notSynchronized
  have hts0 := atoms_spec (ws := kc_P_changeEnd :: lw_g) B.pre
  have hts : ∀ w ∈ lw_g, w.before ([.ref (q 1), .int x1, .int x2, .int x3, .int x4] : List Value).toArray s = true := fun w hw => hts0 w (List.mem_cons_of_mem _ hw)
  have hown : s.vm.findClass kr_P = some m.cls := findClass_of_methodNamed B.named
  subst hsz
  have hD := hD0.self (sz := s.heap.size)
  generalize hAe : va_A (wW q cA z) s.heap.size = A at hD ⊢
  have hA : ∀ x : Nat, s.heap.size ≤ x → A x := fun x hx => by rw [← hAe]; exact Or.inr hx
  have hl := lv_entry ([.ref (q 1), .int x1, .int x2, .int x3, .int x4]) (n := 5) (Nat.le_of_ble_eq_true rfl)
  rw [lg_entry_eq]
  generalize (lg_sl ([.ref (q 1), .int x1, .int x2, .int x3, .int x4]) ++ List.replicate (5 - (lg_sl ([.ref (q 1), .int x1, .int x2, .int x3, .int x4])).length) Slot.unset).toArray = ls at hl ⊢
  have hl : lv_has ls 5 [(0, .ref (q 1)), (1, .int x1), (2, .int x2), (3, .int x3), (4, .int x4)] := hl
  exact w_P_changeEnd hx hb hml hown hts (Nat.le_refl _) (Nat.le_refl _) (Nat.zero_le _) (Nat.zero_le _) hA hK x1 x2 x3 x4 z K h (fun r u H locs pc ls hk hV hd => W.iret hx hb hr (fun t ht hW => ⟨⟨r, u, rfl, hk, by rw [ht]; exact hV.1, va_K.moved hW.alike hK, hV.2.1⟩, hV.2.2.F ht⟩) hV.2.2.2.2 hd) ⟨hP, hD, va_S.rf⟩ hl
section
variable {p : Program} {l : Launch} {e : Env} {R : Room} {s : State} {m : MethodId} {args : Array Value} {below : List Frame} {meth : Method} {c : Code} {Q : State → Prop} {ce sl : Nat} {D : va_G} {q : Nat → Nat} {cA : Nat → ClassId} {A : Nat → Prop}
set_option maxHeartbeats 4000000 in
set_option maxRecDepth 100000 in
theorem w_P_addBlock (hx : p.tables.exec = Jvm.exec) (hb : c.code = prog_4_method_3_code) (hml : c.maxLocals = 2) (hown : s.vm.findClass kr_P = some m.cls) (hts : ∀ w ∈ lw_g, w.before args s = true) (hRf : 1 ≤ R.frames) (hRl : 24 ≤ R.locals) (hce : ce ≤ R.cells) (hsl : sl ≤ R.slots) (hA : ∀ x, s.heap.size ≤ x → A x) (hK : va_K D wk_cl (tysW cA) s) (z : Sta) (K : Int32 → Sta → Prop) (h : wp_P_addBlock z K) (hret : ∀ (r : Int32) (u : Sta) (H : Heap) (locs : List Loc) (pc : Nat) (ls : Array Slot), K r u → wk_S D q cA A s.heap u H locs → decode prog_4_method_3_code pc = .ok (.ireturn, 1) → W p l e R s m args below meth c H locs ce sl Q (F0 m pc ls [.int r])) {H : Heap} {locs : List Loc} {ls : Array Slot} (hV : wk_S D q cA A s.heap z H locs) (hl : lv_has ls 2 [(0, .ref (q 1))]) : W p l e R s m args below meth c H locs ce sl Q (F0 m 0 ls []) := by
  unfold wp_P_addBlock at h
  refine lv_aload_n hx hb kd_prog_4_method_3_code_0 rfl (lv_at hl 0 rfl) ?_
  refine va_get (D := D) (ci := 1) (v := .int (z.1 2)) (C := kr_P) (T := kt_P) (N := kn_P) hx hb hts ki_P hown hK hV.1 1 rfl rfl 0 (by decide) (hts _ hw_30) (fun _ h9 => h9) rfl kd_prog_4_method_3_code_1 ?_
  refine lv_topi (fun v1 ev1 => ?_)
  have h := h v1 ev1
  refine lv_istore_n hx hb kd_prog_4_method_3_code_4 rfl hl (by decide) rfl (fun ls hl => ?_)
  have hl : lv_has ls 2 [(1, .int v1), (0, .ref (q 1))] := hl
  refine lv_aload_n hx hb kd_prog_4_method_3_code_5 rfl (lv_at hl 1 rfl) ?_
  refine lv_dup hx hb kd_prog_4_method_3_code_6 rfl ?_
  refine va_get (D := D) (ci := 1) (v := .int (z.1 2)) (C := kr_P) (T := kt_P) (N := kn_P) hx hb hts ki_P hown hK hV.1 1 rfl rfl 0 (by decide) (hts _ hw_30) (fun _ h9 => h9) rfl kd_prog_4_method_3_code_7 ?_
  refine lv_topi (fun v2 ev2 => ?_)
  have h := h v2 ev2
  refine lv_iconst (v := 1) hx hb kd_prog_4_method_3_code_10 (by decide) ?_
  refine lv_iadd hx hb kd_prog_4_method_3_code_11 ?_
  refine lv_topi (fun v3 ev3 => ?_)
  have h := h v3 ev3
  refine wk_put (D := D) (ci := 1) (v := .int v3) (ty := .int) (C := kr_P) (T := kt_P) (N := kn_P) (z1 := zI z 2 v3) hx hb hts ki_P ky_P ko_P km_P hown hK hV 1 rfl rfl 0 (by decide) (hts _ hw_30) (fun _ h9 => h9) rfl (by decide +kernel) rfl rfl (Nat.le_of_ble_eq_true rfl) rfl kd_prog_4_method_3_code_12 (fun H locs hV => ?_)
  obtain ⟨z4, ez4⟩ : ∃ x : Sta, x = zI z 2 v3 := ⟨_, rfl⟩
  rw [← ez4] at hV
  have h := h z4 ez4
  refine lv_aload_n hx hb kd_prog_4_method_3_code_15 rfl (lv_at hl 1 rfl) ?_
  refine lv_iload_n hx hb kd_prog_4_method_3_code_16 rfl (lv_at hl 0 rfl) ?_
  refine lv_iconst (v := 0) hx hb kd_prog_4_method_3_code_17 (by decide) ?_
  refine lv_iconst (v := (-1)) hx hb kd_prog_4_method_3_code_18 (by decide) ?_
  refine lv_iconst (v := (-1)) hx hb kd_prog_4_method_3_code_19 (by decide) ?_
  refine wk_calli (va_runV (As := [.int v1, .int (0 : Int32), .int (-1 : Int32), .int (-1 : Int32)]) (rest := []) ⟨hx, hb, hml, hown, hts⟩ (c_P_changeEnd l D q cA v1 0 (-1) (-1) z4 H.size _ h) (cwV 4 hts gs_P_53 rfl rfl rfl (by decide +kernel) ⟨Nat.le_trans (by decide) hRf, Nat.le_trans (by decide) hRl⟩) (wk_preV hK hV 1 1 rfl rfl [.int v1, .int (0 : Int32), .int (-1 : Int32), .int (-1 : Int32)]) rfl rfl hl.1 rfl (lv_room (Nat.le_of_ble_eq_true rfl)) kd_prog_4_method_3_code_20 ⟨hce, hsl⟩) hV hA (fun rz5 z5 H locs h hV => ?_)
  refine lv_pop hx hb kd_prog_4_method_3_code_23 rfl ?_
  refine lv_iload_n hx hb kd_prog_4_method_3_code_24 rfl (lv_at hl 0 rfl) ?_
  exact hret v1 z5 H locs 25 ls h hV kd_prog_4_method_3_code_25
end
set_option maxHeartbeats 4000000 in
set_option maxRecDepth 100000 in
theorem c_P_addBlock (l : Launch) (D : va_G) (q : Nat → Nat) (cA : Nat → ClassId) (z : Sta) (sz : Nat) (K : Int32 → Sta → Prop) (h : wp_P_addBlock z K) : Met l ke_P_addBlock (kc_P_addBlock :: lw_g) { frames := 1, cells := 0, slots := 0, locals := 24 } (wk_Pc D q cA [.ref (q 1)] z sz) (va_Qi K (wk_B D q cA (va_A (wW q cA z) sz)) (va_A (wW q cA z) sz)) 0 0 (va_A (wW q cA z) sz) := by
  refine Met.ofW (cc := prog_4_method_3_code) (maxL := 2) (ret := (some .int)) (by decide) rfl ?_
  intro p e s m args below meth c s₁ B hml hv
  obtain ⟨rfl, hsz, hP, hK, hD0⟩ := hv
  have hx := B.exec
  have hb := B.bytes
  have hr := B.returns
  have hlocks := B.notSynchronized
  have hts0 := atoms_spec (ws := kc_P_addBlock :: lw_g) B.pre
  have hts : ∀ w ∈ lw_g, w.before ([.ref (q 1)] : List Value).toArray s = true := fun w hw => hts0 w (List.mem_cons_of_mem _ hw)
  have hown : s.vm.findClass kr_P = some m.cls := findClass_of_methodNamed B.named
  subst hsz
  have hD := hD0.self (sz := s.heap.size)
  generalize hAe : va_A (wW q cA z) s.heap.size = A at hD ⊢
  have hA : ∀ x : Nat, s.heap.size ≤ x → A x := fun x hx => by rw [← hAe]; exact Or.inr hx
  have hl := lv_entry ([.ref (q 1)]) (n := 2) (Nat.le_of_ble_eq_true rfl)
  rw [lg_entry_eq]
  generalize (lg_sl ([.ref (q 1)]) ++ List.replicate (2 - (lg_sl ([.ref (q 1)])).length) Slot.unset).toArray = ls at hl ⊢
  have hl : lv_has ls 2 [(0, .ref (q 1))] := hl
  exact w_P_addBlock hx hb hml hown hts (Nat.le_refl _) (Nat.le_refl _) (Nat.zero_le _) (Nat.zero_le _) hA hK z K h (fun r u H locs pc ls hk hV hd => W.iret hx hb hr (fun t ht hW => ⟨⟨r, u, rfl, hk, by rw [ht]; exact hV.1, va_K.moved hW.alike hK, hV.2.1⟩, hV.2.2.F ht⟩) hV.2.2.2.2 hd) ⟨hP, hD, va_S.rf⟩ hl
section
variable {p : Program} {l : Launch} {e : Env} {R : Room} {s : State} {m : MethodId} {args : Array Value} {below : List Frame} {meth : Method} {c : Code} {Q : State → Prop} {ce sl : Nat} {D : va_G} {q : Nat → Nat} {cA : Nat → ClassId} {A : Nat → Prop}
set_option maxHeartbeats 4000000 in
set_option maxRecDepth 100000 in
theorem w_P_takesStatement (hx : p.tables.exec = Jvm.exec) (hb : c.code = prog_4_method_5_code) (hml : c.maxLocals = 1) (hown : s.vm.findClass kr_P = some m.cls) (hts : ∀ w ∈ lw_g, w.before args s = true) (hRf : 0 ≤ R.frames) (hRl : 0 ≤ R.locals) (hce : ce ≤ R.cells) (hsl : sl ≤ R.slots) (hA : ∀ x, s.heap.size ≤ x → A x) (hK : va_K D wk_cl (tysW cA) s) (z : Sta) (K : Int32 → Sta → Prop) (h : wp_P_takesStatement z K) (hret : ∀ (r : Int32) (u : Sta) (H : Heap) (locs : List Loc) (pc : Nat) (ls : Array Slot), K r u → (r = 0 ∨ r = 1) → wk_S D q cA A s.heap u H locs → decode prog_4_method_5_code pc = .ok (.ireturn, 1) → W p l e R s m args below meth c H locs ce sl Q (F0 m pc ls [.int r])) {H : Heap} {locs : List Loc} {ls : Array Slot} (hV : wk_S D q cA A s.heap z H locs) (hl : lv_has ls 1 [(0, .ref (q 1))]) : W p l e R s m args below meth c H locs ce sl Q (F0 m 0 ls []) := by
  have J27 : ∀ (y0 : Int32) (z : Sta) (H : Heap) (locs : List Loc) (ls : Array Slot), wk_S D q cA A s.heap z H locs → lv_has ls 1 [] → pj_P_takesStatement_27 K y0 z → W p l e R s m args below meth c H locs ce sl Q (F0 m 27 ls [.int y0]) := by
    intro y0 z H locs ls hV hl h
    unfold pj_P_takesStatement_27 at h
    obtain ⟨hz, h⟩ := h
    exact hret y0 z H locs 27 ls h hz hV kd_prog_4_method_5_code_27
  have J26 : ∀ (z : Sta) (H : Heap) (locs : List Loc) (ls : Array Slot), wk_S D q cA A s.heap z H locs → lv_has ls 1 [] → pj_P_takesStatement_26 K z → W p l e R s m args below meth c H locs ce sl Q (F0 m 26 ls []) := by
    intro z H locs ls hV hl h
    unfold pj_P_takesStatement_26 at h
    refine lv_iconst (v := 0) hx hb kd_prog_4_method_5_code_26 (by decide) ?_
    exact J27 0 z H locs ls hV (lv_sub hl [] rfl) h
  unfold wp_P_takesStatement at h
  refine lv_aload_n hx hb kd_prog_4_method_5_code_0 rfl (lv_at hl 0 rfl) ?_
  refine va_get (D := D) (ci := 1) (v := .int (z.1 2)) (C := kr_P) (T := kt_P) (N := kn_P) hx hb hts ki_P hown hK hV.1 1 rfl rfl 0 (by decide) (hts _ hw_30) (fun _ h9 => h9) rfl kd_prog_4_method_5_code_1 ?_
  refine lv_topi (fun v1 ev1 => ?_)
  have h := h v1 ev1
  refine lv_if_le (tgt := 26) hx hb kd_prog_4_method_5_code_4 (by decide) (fun hc => ?_) (fun hc => ?_)
  · have h := h.1 hc
    exact J26 z H locs ls hV (lv_sub hl [] rfl) h
  · have h := h.2 hc
    refine lv_aload_n hx hb kd_prog_4_method_5_code_7 rfl (lv_at hl 0 rfl) ?_
    refine va_get (D := D) (ci := 1) (v := .ref (q 5)) (C := kr_P) (T := kt_P) (N := kn_P) hx hb hts ki_P hown hK hV.1 1 rfl rfl 2 (by decide) (hts _ hw_37) (fun _ h9 => h9) rfl kd_prog_4_method_5_code_8 ?_
    refine lv_aload_n hx hb kd_prog_4_method_5_code_11 rfl (lv_at hl 0 rfl) ?_
    refine va_get (D := D) (ci := 1) (v := .int (z.1 2)) (C := kr_P) (T := kt_P) (N := kn_P) hx hb hts ki_P hown hK hV.1 1 rfl rfl 0 (by decide) (hts _ hw_30) (fun _ h9 => h9) rfl kd_prog_4_method_5_code_12 ?_
    refine lv_topi (fun v2 ev2 => ?_)
    have h := h v2 ev2
    refine lv_iconst (v := 1) hx hb kd_prog_4_method_5_code_15 (by decide) ?_
    refine lv_isub hx hb kd_prog_4_method_5_code_16 ?_
    refine lv_topi (fun v3 ev3 => ?_)
    have h := h v3 ev3
    obtain ⟨hin, h⟩ := h
    refine va_iald hx hb hK hV.1 5 0 rfl rfl hin kd_prog_4_method_5_code_17 ?_
    refine lv_topi (fun v4 ev4 => ?_)
    have h := h v4 ev4
    refine lv_iconst (v := 5) hx hb kd_prog_4_method_5_code_18 (by decide) ?_
    refine lv_icmp_ge (tgt := 26) hx hb kd_prog_4_method_5_code_19 (by decide) (fun hc => ?_) (fun hc => ?_)
    · have h := h.1 hc
      exact J26 z H locs ls hV (lv_sub hl [] rfl) h
    · have h := h.2 hc
      refine lv_iconst (v := 1) hx hb kd_prog_4_method_5_code_22 (by decide) ?_
      refine lv_goto (tgt := 27) hx hb kd_prog_4_method_5_code_23 (by decide) ?_
      exact J27 1 z H locs ls hV (lv_sub hl [] rfl) h
end
set_option maxHeartbeats 4000000 in
set_option maxRecDepth 100000 in
theorem c_P_takesStatement (l : Launch) (D : va_G) (q : Nat → Nat) (cA : Nat → ClassId) (z : Sta) (sz : Nat) (K : Int32 → Sta → Prop) (h : wp_P_takesStatement z K) : Met l ke_P_takesStatement (kc_P_takesStatement :: lw_g) { frames := 0, cells := 0, slots := 0, locals := 0 } (wk_Pc D q cA [.ref (q 1)] z sz) (va_Qi K (wk_B D q cA (va_A (wW q cA z) sz)) (va_A (wW q cA z) sz)) 0 0 (va_A (wW q cA z) sz) := by
  refine Met.ofW (cc := prog_4_method_5_code) (maxL := 1) (ret := (some .boolean)) (by decide) rfl ?_
  intro p e s m args below meth c s₁ B hml hv
  obtain ⟨rfl, hsz, hP, hK, hD0⟩ := hv
  have hx := B.exec
  have hb := B.bytes
  have hr := B.returns
  have hlocks := B.notSynchronized
  have hts0 := atoms_spec (ws := kc_P_takesStatement :: lw_g) B.pre
  have hts : ∀ w ∈ lw_g, w.before ([.ref (q 1)] : List Value).toArray s = true := fun w hw => hts0 w (List.mem_cons_of_mem _ hw)
  have hown : s.vm.findClass kr_P = some m.cls := findClass_of_methodNamed B.named
  subst hsz
  have hD := hD0.self (sz := s.heap.size)
  generalize hAe : va_A (wW q cA z) s.heap.size = A at hD ⊢
  have hA : ∀ x : Nat, s.heap.size ≤ x → A x := fun x hx => by rw [← hAe]; exact Or.inr hx
  have hl := lv_entry ([.ref (q 1)]) (n := 1) (Nat.le_of_ble_eq_true rfl)
  rw [lg_entry_eq]
  generalize (lg_sl ([.ref (q 1)]) ++ List.replicate (1 - (lg_sl ([.ref (q 1)])).length) Slot.unset).toArray = ls at hl ⊢
  have hl : lv_has ls 1 [(0, .ref (q 1))] := hl
  exact w_P_takesStatement hx hb hml hown hts (Nat.le_refl _) (Nat.le_refl _) (Nat.zero_le _) (Nat.zero_le _) hA hK z K h (fun r u H locs pc ls hk hz hV hd => W.zret (ty := .boolean) hx hb hr (by rcases hz with rfl | rfl <;> rfl) (fun t ht hW => ⟨⟨r, u, rfl, hk, by rw [ht]; exact hV.1, va_K.moved hW.alike hK, hV.2.1⟩, hV.2.2.F ht⟩) hV.2.2.2.2 hd) ⟨hP, hD, va_S.rf⟩ hl
section
variable {p : Program} {l : Launch} {e : Env} {R : Room} {s : State} {m : MethodId} {args : Array Value} {below : List Frame} {meth : Method} {c : Code} {Q : State → Prop} {ce sl : Nat} {D : va_G} {q : Nat → Nat} {cA : Nat → ClassId} {A : Nat → Prop}
set_option maxHeartbeats 4000000 in
set_option maxRecDepth 100000 in
theorem w_P_findExpression (hx : p.tables.exec = Jvm.exec) (hb : c.code = prog_4_method_7_code) (hml : c.maxLocals = 5) (hown : s.vm.findClass kr_P = some m.cls) (hts : ∀ w ∈ lw_g, w.before args s = true) (hRf : 0 ≤ R.frames) (hRl : 0 ≤ R.locals) (hce : ce ≤ R.cells) (hsl : sl ≤ R.slots) (hA : ∀ x, s.heap.size ≤ x → A x) (hK : va_K D wk_cl (tysW cA) s) (x1 : Int32) (x2 : Int32) (x3 : Int32) (z : Sta) (K : Int32 → Sta → Prop) (h : wp_P_findExpression x1 x2 x3 z K) (hret : ∀ (r : Int32) (u : Sta) (H : Heap) (locs : List Loc) (pc : Nat) (ls : Array Slot), K r u → wk_S D q cA A s.heap u H locs → decode prog_4_method_7_code pc = .ok (.ireturn, 1) → W p l e R s m args below meth c H locs ce sl Q (F0 m pc ls [.int r])) {H : Heap} {locs : List Loc} {ls : Array Slot} (hV : wk_S D q cA A s.heap z H locs) (hl : lv_has ls 5 [(0, .ref (q 1)), (1, .int x1), (2, .int x2), (3, .int x3)]) : W p l e R s m args below meth c H locs ce sl Q (F0 m 0 ls []) := by
  have L3 : ∀ (n : Nat) (x1 : Int32) (x2 : Int32) (x3 : Int32) (x4 : Int32) (z : Sta) (H : Heap) (locs : List Loc) (ls : Array Slot), wk_S D q cA A s.heap z H locs → lv_has ls 5 [(0, .ref (q 1)), (1, .int x1), (2, .int x2), (3, .int x3), (4, .int x4)] → lp_P_findExpression_3 K n x1 x2 x3 x4 z → W p l e R s m args below meth c H locs ce sl Q (F0 m 3 ls []) := by
    intro n3
    induction n3 with
    | zero => intro x1 x2 x3 x4 z H locs ls hV hl h; rw [lp_P_findExpression_3] at h; exact h.elim
    | succ n3 ih3 =>
      have J48 : ∀ (x1 : Int32) (x2 : Int32) (x3 : Int32) (x4 : Int32) (z : Sta) (H : Heap) (locs : List Loc) (ls : Array Slot), wk_S D q cA A s.heap z H locs → lv_has ls 5 [(0, .ref (q 1)), (1, .int x1), (2, .int x2), (3, .int x3), (4, .int x4)] → pj_P_findExpression_48 K (fun x1 x2 x3 x4 z => lp_P_findExpression_3 K n3 x1 x2 x3 x4 z) x1 x2 x3 x4 z → W p l e R s m args below meth c H locs ce sl Q (F0 m 48 ls []) := by
        intro x1 x2 x3 x4 z H locs ls hV hl h
        unfold pj_P_findExpression_48 at h
        obtain ⟨v5, ev5⟩ : ∃ v : Int32, v = x4 + 1 := ⟨_, rfl⟩
        have h := h v5 ev5
        refine lv_iinc (v := v5) (k := 4) hx hb kd_prog_4_method_7_code_48 hl rfl (by rw [ev5]; rfl) (by decide) rfl (fun ls hl => ?_)
        have hl : lv_has ls 5 [(4, .int v5), (0, .ref (q 1)), (1, .int x1), (2, .int x2), (3, .int x3)] := hl
        refine lv_goto (tgt := 3) hx hb kd_prog_4_method_7_code_51 (by decide) ?_
        exact ih3 x1 x2 x3 v5 z H locs ls hV (lv_sub hl [1, 2, 3, 4, 0] rfl) h
      intro x1 x2 x3 x4 z H locs ls hV hl h
      rw [lp_P_findExpression_3] at h
      refine lv_iload hx hb kd_prog_4_method_7_code_3 (lv_at hl 4 rfl) ?_
      refine lv_aload_n hx hb kd_prog_4_method_7_code_5 rfl (lv_at hl 0 rfl) ?_
      refine va_get (D := D) (ci := 1) (v := .int (z.1 3)) (C := kr_P) (T := kt_P) (N := kn_P) hx hb hts ki_P hown hK hV.1 1 rfl rfl 1 (by decide) (hts _ hw_33) (fun _ h9 => h9) rfl kd_prog_4_method_7_code_6 ?_
      refine lv_topi (fun v1 ev1 => ?_)
      have h := h v1 ev1
      refine lv_icmp_ge (tgt := 54) hx hb kd_prog_4_method_7_code_9 (by decide) (fun hc => ?_) (fun hc => ?_)
      · have h := h.1 hc
        refine lv_iconst (v := (-1)) hx hb kd_prog_4_method_7_code_54 (by decide) ?_
        exact hret (-1) z H locs 55 ls h hV kd_prog_4_method_7_code_55
      · have h := h.2 hc
        refine lv_aload_n hx hb kd_prog_4_method_7_code_12 rfl (lv_at hl 0 rfl) ?_
        refine va_get (D := D) (ci := 1) (v := .ref (q 12)) (C := kr_P) (T := kt_P) (N := kn_P) hx hb hts ki_P hown hK hV.1 1 rfl rfl 9 (by decide) (hts _ hw_57) (fun _ h9 => h9) rfl kd_prog_4_method_7_code_13 ?_
        refine lv_iload hx hb kd_prog_4_method_7_code_16 (lv_at hl 4 rfl) ?_
        obtain ⟨hin, h⟩ := h
        refine va_iald hx hb hK hV.1 12 7 rfl rfl hin kd_prog_4_method_7_code_18 ?_
        refine lv_topi (fun v2 ev2 => ?_)
        have h := h v2 ev2
        refine lv_iload_n hx hb kd_prog_4_method_7_code_19 rfl (lv_at hl 1 rfl) ?_
        refine lv_icmp_ne (tgt := 48) hx hb kd_prog_4_method_7_code_20 (by decide) (fun hc => ?_) (fun hc => ?_)
        · have h := h.1 hc
          exact J48 x1 x2 x3 x4 z H locs ls hV (lv_sub hl [0, 1, 2, 3, 4] rfl) h
        · have h := h.2 hc
          refine lv_aload_n hx hb kd_prog_4_method_7_code_23 rfl (lv_at hl 0 rfl) ?_
          refine va_get (D := D) (ci := 1) (v := .ref (q 13)) (C := kr_P) (T := kt_P) (N := kn_P) hx hb hts ki_P hown hK hV.1 1 rfl rfl 10 (by decide) (hts _ hw_58) (fun _ h9 => h9) rfl kd_prog_4_method_7_code_24 ?_
          refine lv_iload hx hb kd_prog_4_method_7_code_27 (lv_at hl 4 rfl) ?_
          obtain ⟨hin, h⟩ := h
          refine va_iald hx hb hK hV.1 13 8 rfl rfl hin kd_prog_4_method_7_code_29 ?_
          refine lv_topi (fun v3 ev3 => ?_)
          have h := h v3 ev3
          refine lv_iload_n hx hb kd_prog_4_method_7_code_30 rfl (lv_at hl 2 rfl) ?_
          refine lv_icmp_ne (tgt := 48) hx hb kd_prog_4_method_7_code_31 (by decide) (fun hc => ?_) (fun hc => ?_)
          · have h := h.1 hc
            exact J48 x1 x2 x3 x4 z H locs ls hV (lv_sub hl [0, 1, 2, 3, 4] rfl) h
          · have h := h.2 hc
            refine lv_aload_n hx hb kd_prog_4_method_7_code_34 rfl (lv_at hl 0 rfl) ?_
            refine va_get (D := D) (ci := 1) (v := .ref (q 14)) (C := kr_P) (T := kt_P) (N := kn_P) hx hb hts ki_P hown hK hV.1 1 rfl rfl 11 (by decide) (hts _ hw_59) (fun _ h9 => h9) rfl kd_prog_4_method_7_code_35 ?_
            refine lv_iload hx hb kd_prog_4_method_7_code_38 (lv_at hl 4 rfl) ?_
            obtain ⟨hin, h⟩ := h
            refine va_iald hx hb hK hV.1 14 9 rfl rfl hin kd_prog_4_method_7_code_40 ?_
            refine lv_topi (fun v4 ev4 => ?_)
            have h := h v4 ev4
            refine lv_iload_n hx hb kd_prog_4_method_7_code_41 rfl (lv_at hl 3 rfl) ?_
            refine lv_icmp_ne (tgt := 48) hx hb kd_prog_4_method_7_code_42 (by decide) (fun hc => ?_) (fun hc => ?_)
            · have h := h.1 hc
              exact J48 x1 x2 x3 x4 z H locs ls hV (lv_sub hl [0, 1, 2, 3, 4] rfl) h
            · have h := h.2 hc
              refine lv_iload hx hb kd_prog_4_method_7_code_45 (lv_at hl 4 rfl) ?_
              exact hret x4 z H locs 47 ls h hV kd_prog_4_method_7_code_47
  unfold wp_P_findExpression at h
  refine lv_iconst (v := 0) hx hb kd_prog_4_method_7_code_0 (by decide) ?_
  refine lv_istore hx hb kd_prog_4_method_7_code_1 hl (by decide) rfl (fun ls hl => ?_)
  have hl : lv_has ls 5 [(4, .int 0), (0, .ref (q 1)), (1, .int x1), (2, .int x2), (3, .int x3)] := hl
  obtain ⟨n3, h⟩ := h
  exact L3 n3 x1 x2 x3 0 z H locs ls hV (lv_sub hl [1, 2, 3, 4, 0] rfl) h
end
set_option maxHeartbeats 4000000 in
set_option maxRecDepth 100000 in
theorem c_P_findExpression (l : Launch) (D : va_G) (q : Nat → Nat) (cA : Nat → ClassId) (x1 : Int32) (x2 : Int32) (x3 : Int32) (z : Sta) (sz : Nat) (K : Int32 → Sta → Prop) (h : wp_P_findExpression x1 x2 x3 z K) : Met l ke_P_findExpression (kc_P_findExpression :: lw_g) { frames := 0, cells := 0, slots := 0, locals := 0 } (wk_Pc D q cA [.ref (q 1), .int x1, .int x2, .int x3] z sz) (va_Qi K (wk_B D q cA (va_A (wW q cA z) sz)) (va_A (wW q cA z) sz)) 0 0 (va_A (wW q cA z) sz) := by
  refine Met.ofW (cc := prog_4_method_7_code) (maxL := 5) (ret := (some .int)) (by decide) rfl ?_
  intro p e s m args below meth c s₁ B hml hv
  obtain ⟨rfl, hsz, hP, hK, hD0⟩ := hv
  have hx := B.exec
  have hb := B.bytes
  have hr := B.returns
  have hlocks := B.notSynchronized
  have hts0 := atoms_spec (ws := kc_P_findExpression :: lw_g) B.pre
  have hts : ∀ w ∈ lw_g, w.before ([.ref (q 1), .int x1, .int x2, .int x3] : List Value).toArray s = true := fun w hw => hts0 w (List.mem_cons_of_mem _ hw)
  have hown : s.vm.findClass kr_P = some m.cls := findClass_of_methodNamed B.named
  subst hsz
  have hD := hD0.self (sz := s.heap.size)
  generalize hAe : va_A (wW q cA z) s.heap.size = A at hD ⊢
  have hA : ∀ x : Nat, s.heap.size ≤ x → A x := fun x hx => by rw [← hAe]; exact Or.inr hx
  have hl := lv_entry ([.ref (q 1), .int x1, .int x2, .int x3]) (n := 5) (Nat.le_of_ble_eq_true rfl)
  rw [lg_entry_eq]
  generalize (lg_sl ([.ref (q 1), .int x1, .int x2, .int x3]) ++ List.replicate (5 - (lg_sl ([.ref (q 1), .int x1, .int x2, .int x3])).length) Slot.unset).toArray = ls at hl ⊢
  have hl : lv_has ls 5 [(0, .ref (q 1)), (1, .int x1), (2, .int x2), (3, .int x3)] := hl
  exact w_P_findExpression hx hb hml hown hts (Nat.le_refl _) (Nat.le_refl _) (Nat.zero_le _) (Nat.zero_le _) hA hK x1 x2 x3 z K h (fun r u H locs pc ls hk hV hd => W.iret hx hb hr (fun t ht hW => ⟨⟨r, u, rfl, hk, by rw [ht]; exact hV.1, va_K.moved hW.alike hK, hV.2.1⟩, hV.2.2.F ht⟩) hV.2.2.2.2 hd) ⟨hP, hD, va_S.rf⟩ hl
section
variable {p : Program} {l : Launch} {e : Env} {R : Room} {s : State} {m : MethodId} {args : Array Value} {below : List Frame} {meth : Method} {c : Code} {Q : State → Prop} {ce sl : Nat} {D : va_G} {q : Nat → Nat} {cA : Nat → ClassId} {A : Nat → Prop}
set_option maxHeartbeats 4000000 in
set_option maxRecDepth 100000 in
theorem w_P_findOrAddExpression (hx : p.tables.exec = Jvm.exec) (hb : c.code = prog_4_method_8_code) (hml : c.maxLocals = 5) (hown : s.vm.findClass kr_P = some m.cls) (hts : ∀ w ∈ lw_g, w.before args s = true) (hRf : 1 ≤ R.frames) (hRl : 24 ≤ R.locals) (hce : ce ≤ R.cells) (hsl : sl ≤ R.slots) (hA : ∀ x, s.heap.size ≤ x → A x) (hK : va_K D wk_cl (tysW cA) s) (x1 : Int32) (x2 : Int32) (x3 : Int32) (z : Sta) (K : Int32 → Sta → Prop) (h : wp_P_findOrAddExpression x1 x2 x3 z K) (hret : ∀ (r : Int32) (u : Sta) (H : Heap) (locs : List Loc) (pc : Nat) (ls : Array Slot), K r u → wk_S D q cA A s.heap u H locs → decode prog_4_method_8_code pc = .ok (.ireturn, 1) → W p l e R s m args below meth c H locs ce sl Q (F0 m pc ls [.int r])) {H : Heap} {locs : List Loc} {ls : Array Slot} (hV : wk_S D q cA A s.heap z H locs) (hl : lv_has ls 5 [(0, .ref (q 1)), (1, .int x1), (2, .int x2), (3, .int x3)]) : W p l e R s m args below meth c H locs ce sl Q (F0 m 0 ls []) := by
  have J24 : ∀ (x4 : Int32) (z : Sta) (H : Heap) (locs : List Loc) (ls : Array Slot), wk_S D q cA A s.heap z H locs → lv_has ls 5 [(4, .int x4)] → pj_P_findOrAddExpression_24 K x4 z → W p l e R s m args below meth c H locs ce sl Q (F0 m 24 ls []) := by
    intro x4 z H locs ls hV hl h
    unfold pj_P_findOrAddExpression_24 at h
    refine lv_iload hx hb kd_prog_4_method_8_code_24 (lv_at hl 0 rfl) ?_
    exact hret x4 z H locs 26 ls h hV kd_prog_4_method_8_code_26
  unfold wp_P_findOrAddExpression at h
  refine lv_aload_n hx hb kd_prog_4_method_8_code_0 rfl (lv_at hl 0 rfl) ?_
  refine lv_iload_n hx hb kd_prog_4_method_8_code_1 rfl (lv_at hl 1 rfl) ?_
  refine lv_iload_n hx hb kd_prog_4_method_8_code_2 rfl (lv_at hl 2 rfl) ?_
  refine lv_iload_n hx hb kd_prog_4_method_8_code_3 rfl (lv_at hl 3 rfl) ?_
  refine wk_calli (va_runV (As := [.int x1, .int x2, .int x3]) (rest := []) ⟨hx, hb, hml, hown, hts⟩ (c_P_findExpression l D q cA x1 x2 x3 z H.size _ h) (cwV 3 hts gs_P_57 rfl rfl rfl (by decide +kernel) ⟨Nat.le_trans (by decide) hRf, Nat.le_trans (by decide) hRl⟩) (wk_preV hK hV 1 1 rfl rfl [.int x1, .int x2, .int x3]) rfl rfl hl.1 rfl (lv_room (Nat.le_of_ble_eq_true rfl)) kd_prog_4_method_8_code_4 ⟨hce, hsl⟩) hV hA (fun rz1 z1 H locs h hV => ?_)
  refine lv_istore hx hb kd_prog_4_method_8_code_7 hl (by decide) rfl (fun ls hl => ?_)
  have hl : lv_has ls 5 [(4, .int rz1), (0, .ref (q 1)), (1, .int x1), (2, .int x2), (3, .int x3)] := hl
  refine lv_iload hx hb kd_prog_4_method_8_code_9 (lv_at hl 0 rfl) ?_
  refine lv_iconst (v := (-1)) hx hb kd_prog_4_method_8_code_11 (by decide) ?_
  refine lv_icmp_ne (tgt := 24) hx hb kd_prog_4_method_8_code_12 (by decide) (fun hc => ?_) (fun hc => ?_)
  · have h := h.1 hc
    exact J24 rz1 z1 H locs ls hV (lv_sub hl [0] rfl) h
  · have h := h.2 hc
    refine lv_aload_n hx hb kd_prog_4_method_8_code_15 rfl (lv_at hl 1 rfl) ?_
    refine va_get (D := D) (ci := 1) (v := .int (z1.1 3)) (C := kr_P) (T := kt_P) (N := kn_P) hx hb hts ki_P hown hK hV.1 1 rfl rfl 1 (by decide) (hts _ hw_33) (fun _ h9 => h9) rfl kd_prog_4_method_8_code_16 ?_
    refine lv_topi (fun v2 ev2 => ?_)
    have h := h v2 ev2
    refine lv_bipush (v := 24) hx hb kd_prog_4_method_8_code_19 (by decide) ?_
    refine lv_icmp_lt (tgt := 27) hx hb kd_prog_4_method_8_code_21 (by decide) (fun hc => ?_) (fun hc => ?_)
    · have h := h.1 hc
      refine lv_aload_n hx hb kd_prog_4_method_8_code_27 rfl (lv_at hl 1 rfl) ?_
      refine va_get (D := D) (ci := 1) (v := .int (z1.1 3)) (C := kr_P) (T := kt_P) (N := kn_P) hx hb hts ki_P hown hK hV.1 1 rfl rfl 1 (by decide) (hts _ hw_33) (fun _ h9 => h9) rfl kd_prog_4_method_8_code_28 ?_
      refine lv_topi (fun v3 ev3 => ?_)
      have h := h v3 ev3
      refine lv_istore hx hb kd_prog_4_method_8_code_31 hl (by decide) rfl (fun ls hl => ?_)
      have hl : lv_has ls 5 [(4, .int v3), (0, .ref (q 1)), (1, .int x1), (2, .int x2), (3, .int x3)] := hl
      refine lv_aload_n hx hb kd_prog_4_method_8_code_33 rfl (lv_at hl 1 rfl) ?_
      refine lv_dup hx hb kd_prog_4_method_8_code_34 rfl ?_
      refine va_get (D := D) (ci := 1) (v := .int (z1.1 3)) (C := kr_P) (T := kt_P) (N := kn_P) hx hb hts ki_P hown hK hV.1 1 rfl rfl 1 (by decide) (hts _ hw_33) (fun _ h9 => h9) rfl kd_prog_4_method_8_code_35 ?_
      refine lv_topi (fun v4 ev4 => ?_)
      have h := h v4 ev4
      refine lv_iconst (v := 1) hx hb kd_prog_4_method_8_code_38 (by decide) ?_
      refine lv_iadd hx hb kd_prog_4_method_8_code_39 ?_
      refine lv_topi (fun v5 ev5 => ?_)
      have h := h v5 ev5
      refine wk_put (D := D) (ci := 1) (v := .int v5) (ty := .int) (C := kr_P) (T := kt_P) (N := kn_P) (z1 := zI z1 3 v5) hx hb hts ki_P ky_P ko_P km_P hown hK hV 1 rfl rfl 1 (by decide) (hts _ hw_33) (fun _ h9 => h9) rfl (by decide +kernel) rfl rfl (Nat.le_of_ble_eq_true rfl) rfl kd_prog_4_method_8_code_40 (fun H locs hV => ?_)
      obtain ⟨z6, ez6⟩ : ∃ x : Sta, x = zI z1 3 v5 := ⟨_, rfl⟩
      rw [← ez6] at hV
      have h := h z6 ez6
      refine lv_aload_n hx hb kd_prog_4_method_8_code_43 rfl (lv_at hl 1 rfl) ?_
      refine va_get (D := D) (ci := 1) (v := .ref (q 12)) (C := kr_P) (T := kt_P) (N := kn_P) hx hb hts ki_P hown hK hV.1 1 rfl rfl 9 (by decide) (hts _ hw_57) (fun _ h9 => h9) rfl kd_prog_4_method_8_code_44 ?_
      refine lv_iload hx hb kd_prog_4_method_8_code_47 (lv_at hl 0 rfl) ?_
      refine lv_iload_n hx hb kd_prog_4_method_8_code_49 rfl (lv_at hl 2 rfl) ?_
      obtain ⟨hin, h⟩ := h
      refine wk_iast hx hb hK hV 12 7 7 rfl rfl (ks_12 q cA z6) hin kd_prog_4_method_8_code_50 (fun H locs hV => ?_)
      obtain ⟨z7, ez7⟩ : ∃ x : Sta, x = zA z6 7 (upd (z6.2.1 7) v3.toNatClampNeg x1) := ⟨_, rfl⟩
      rw [← ez7] at hV
      have h := h z7 ez7
      refine lv_aload_n hx hb kd_prog_4_method_8_code_51 rfl (lv_at hl 1 rfl) ?_
      refine va_get (D := D) (ci := 1) (v := .ref (q 13)) (C := kr_P) (T := kt_P) (N := kn_P) hx hb hts ki_P hown hK hV.1 1 rfl rfl 10 (by decide) (hts _ hw_58) (fun _ h9 => h9) rfl kd_prog_4_method_8_code_52 ?_
      refine lv_iload hx hb kd_prog_4_method_8_code_55 (lv_at hl 0 rfl) ?_
      refine lv_iload_n hx hb kd_prog_4_method_8_code_57 rfl (lv_at hl 3 rfl) ?_
      obtain ⟨hin, h⟩ := h
      refine wk_iast hx hb hK hV 13 8 8 rfl rfl (ks_13 q cA z7) hin kd_prog_4_method_8_code_58 (fun H locs hV => ?_)
      obtain ⟨z8, ez8⟩ : ∃ x : Sta, x = zA z7 8 (upd (z7.2.1 8) v3.toNatClampNeg x2) := ⟨_, rfl⟩
      rw [← ez8] at hV
      have h := h z8 ez8
      refine lv_aload_n hx hb kd_prog_4_method_8_code_59 rfl (lv_at hl 1 rfl) ?_
      refine va_get (D := D) (ci := 1) (v := .ref (q 14)) (C := kr_P) (T := kt_P) (N := kn_P) hx hb hts ki_P hown hK hV.1 1 rfl rfl 11 (by decide) (hts _ hw_59) (fun _ h9 => h9) rfl kd_prog_4_method_8_code_60 ?_
      refine lv_iload hx hb kd_prog_4_method_8_code_63 (lv_at hl 0 rfl) ?_
      refine lv_iload_n hx hb kd_prog_4_method_8_code_65 rfl (lv_at hl 4 rfl) ?_
      obtain ⟨hin, h⟩ := h
      refine wk_iast hx hb hK hV 14 9 9 rfl rfl (ks_14 q cA z8) hin kd_prog_4_method_8_code_66 (fun H locs hV => ?_)
      obtain ⟨z9, ez9⟩ : ∃ x : Sta, x = zA z8 9 (upd (z8.2.1 9) v3.toNatClampNeg x3) := ⟨_, rfl⟩
      rw [← ez9] at hV
      have h := h z9 ez9
      refine lv_aload_n hx hb kd_prog_4_method_8_code_67 rfl (lv_at hl 1 rfl) ?_
      refine va_get (D := D) (ci := 1) (v := .ref (q 15)) (C := kr_P) (T := kt_P) (N := kn_P) hx hb hts ki_P hown hK hV.1 1 rfl rfl 12 (by decide) (hts _ hw_60) (fun _ h9 => h9) rfl kd_prog_4_method_8_code_68 ?_
      refine lv_iload_n hx hb kd_prog_4_method_8_code_71 rfl (lv_at hl 2 rfl) ?_
      refine lv_dup2_11 hx hb kd_prog_4_method_8_code_72 rfl rfl ?_
      obtain ⟨hin, h⟩ := h
      refine va_lald hx hb hK hV.1 15 10 rfl rfl hin kd_prog_4_method_8_code_73 ?_
      refine lv_topl (fun v10 ev10 => ?_)
      have h := h v10 ev10
      refine lv_lconst (v := 1) hx hb kd_prog_4_method_8_code_74 (by decide) ?_
      refine lv_iload hx hb kd_prog_4_method_8_code_75 (lv_at hl 0 rfl) ?_
      refine lv_lshl hx hb kd_prog_4_method_8_code_77 rfl ?_
      refine lv_topl (fun v11 ev11 => ?_)
      have h := h v11 ev11
      refine lv_lor hx hb kd_prog_4_method_8_code_78 ?_
      refine lv_topl (fun v12 ev12 => ?_)
      have h := h v12 ev12
      obtain ⟨hin, h⟩ := h
      refine wk_last hx hb hK hV 15 10 0 rfl rfl (ks_15 q cA z9) hin kd_prog_4_method_8_code_79 (fun H locs hV => ?_)
      obtain ⟨z13, ez13⟩ : ∃ x : Sta, x = zL z9 0 (vp_updL (z9.2.2 0) x1.toNatClampNeg v12) := ⟨_, rfl⟩
      rw [← ez13] at hV
      have h := h z13 ez13
      refine lv_aload_n hx hb kd_prog_4_method_8_code_80 rfl (lv_at hl 1 rfl) ?_
      refine va_get (D := D) (ci := 1) (v := .ref (q 15)) (C := kr_P) (T := kt_P) (N := kn_P) hx hb hts ki_P hown hK hV.1 1 rfl rfl 12 (by decide) (hts _ hw_60) (fun _ h9 => h9) rfl kd_prog_4_method_8_code_81 ?_
      refine lv_iload_n hx hb kd_prog_4_method_8_code_84 rfl (lv_at hl 4 rfl) ?_
      refine lv_dup2_11 hx hb kd_prog_4_method_8_code_85 rfl rfl ?_
      obtain ⟨hin, h⟩ := h
      refine va_lald hx hb hK hV.1 15 10 rfl rfl hin kd_prog_4_method_8_code_86 ?_
      refine lv_topl (fun v14 ev14 => ?_)
      have h := h v14 ev14
      refine lv_lconst (v := 1) hx hb kd_prog_4_method_8_code_87 (by decide) ?_
      refine lv_iload hx hb kd_prog_4_method_8_code_88 (lv_at hl 0 rfl) ?_
      refine lv_lshl hx hb kd_prog_4_method_8_code_90 rfl ?_
      refine lv_topl (fun v15 ev15 => ?_)
      have h := h v15 ev15
      refine lv_lor hx hb kd_prog_4_method_8_code_91 ?_
      refine lv_topl (fun v16 ev16 => ?_)
      have h := h v16 ev16
      obtain ⟨hin, h⟩ := h
      refine wk_last hx hb hK hV 15 10 0 rfl rfl (ks_15 q cA z13) hin kd_prog_4_method_8_code_92 (fun H locs hV => ?_)
      obtain ⟨z17, ez17⟩ : ∃ x : Sta, x = zL z13 0 (vp_updL (z13.2.2 0) x3.toNatClampNeg v16) := ⟨_, rfl⟩
      rw [← ez17] at hV
      have h := h z17 ez17
      refine lv_iload hx hb kd_prog_4_method_8_code_93 (lv_at hl 0 rfl) ?_
      exact hret v3 z17 H locs 95 ls h hV kd_prog_4_method_8_code_95
    · have h := h.2 hc
      exact J24 rz1 z1 H locs ls hV (lv_sub hl [0] rfl) h
end
set_option maxHeartbeats 4000000 in
set_option maxRecDepth 100000 in
theorem c_P_findOrAddExpression (l : Launch) (D : va_G) (q : Nat → Nat) (cA : Nat → ClassId) (x1 : Int32) (x2 : Int32) (x3 : Int32) (z : Sta) (sz : Nat) (K : Int32 → Sta → Prop) (h : wp_P_findOrAddExpression x1 x2 x3 z K) : Met l ke_P_findOrAddExpression (kc_P_findOrAddExpression :: lw_g) { frames := 1, cells := 0, slots := 0, locals := 24 } (wk_Pc D q cA [.ref (q 1), .int x1, .int x2, .int x3] z sz) (va_Qi K (wk_B D q cA (va_A (wW q cA z) sz)) (va_A (wW q cA z) sz)) 0 0 (va_A (wW q cA z) sz) := by
  refine Met.ofW (cc := prog_4_method_8_code) (maxL := 5) (ret := (some .int)) (by decide) rfl ?_
  intro p e s m args below meth c s₁ B hml hv
  obtain ⟨rfl, hsz, hP, hK, hD0⟩ := hv
  have hx := B.exec
  have hb := B.bytes
  have hr := B.returns
  have hlocks := B.notSynchronized
  have hts0 := atoms_spec (ws := kc_P_findOrAddExpression :: lw_g) B.pre
  have hts : ∀ w ∈ lw_g, w.before ([.ref (q 1), .int x1, .int x2, .int x3] : List Value).toArray s = true := fun w hw => hts0 w (List.mem_cons_of_mem _ hw)
  have hown : s.vm.findClass kr_P = some m.cls := findClass_of_methodNamed B.named
  subst hsz
  have hD := hD0.self (sz := s.heap.size)
  generalize hAe : va_A (wW q cA z) s.heap.size = A at hD ⊢
  have hA : ∀ x : Nat, s.heap.size ≤ x → A x := fun x hx => by rw [← hAe]; exact Or.inr hx
  have hl := lv_entry ([.ref (q 1), .int x1, .int x2, .int x3]) (n := 5) (Nat.le_of_ble_eq_true rfl)
  rw [lg_entry_eq]
  generalize (lg_sl ([.ref (q 1), .int x1, .int x2, .int x3]) ++ List.replicate (5 - (lg_sl ([.ref (q 1), .int x1, .int x2, .int x3])).length) Slot.unset).toArray = ls at hl ⊢
  have hl : lv_has ls 5 [(0, .ref (q 1)), (1, .int x1), (2, .int x2), (3, .int x3)] := hl
  exact w_P_findOrAddExpression hx hb hml hown hts (Nat.le_refl _) (Nat.le_refl _) (Nat.zero_le _) (Nat.zero_le _) hA hK x1 x2 x3 z K h (fun r u H locs pc ls hk hV hd => W.iret hx hb hr (fun t ht hW => ⟨⟨r, u, rfl, hk, by rw [ht]; exact hV.1, va_K.moved hW.alike hK, hV.2.1⟩, hV.2.2.F ht⟩) hV.2.2.2.2 hd) ⟨hP, hD, va_S.rf⟩ hl
section
variable {p : Program} {l : Launch} {e : Env} {R : Room} {s : State} {m : MethodId} {args : Array Value} {below : List Frame} {meth : Method} {c : Code} {Q : State → Prop} {ce sl : Nat} {D : va_G} {q : Nat → Nat} {cA : Nat → ClassId} {A : Nat → Prop}
set_option maxHeartbeats 4000000 in
set_option maxRecDepth 100000 in
theorem w_P_hasBlock (hx : p.tables.exec = Jvm.exec) (hb : c.code = prog_4_method_2_code) (hml : c.maxLocals = 2) (hown : s.vm.findClass kr_P = some m.cls) (hts : ∀ w ∈ lw_g, w.before args s = true) (hRf : 0 ≤ R.frames) (hRl : 0 ≤ R.locals) (hce : ce ≤ R.cells) (hsl : sl ≤ R.slots) (hA : ∀ x, s.heap.size ≤ x → A x) (hK : va_K D wk_cl (tysW cA) s) (x1 : Int32) (z : Sta) (K : Int32 → Sta → Prop) (h : wp_P_hasBlock x1 z K) (hret : ∀ (r : Int32) (u : Sta) (H : Heap) (locs : List Loc) (pc : Nat) (ls : Array Slot), K r u → (r = 0 ∨ r = 1) → wk_S D q cA A s.heap u H locs → decode prog_4_method_2_code pc = .ok (.ireturn, 1) → W p l e R s m args below meth c H locs ce sl Q (F0 m pc ls [.int r])) {H : Heap} {locs : List Loc} {ls : Array Slot} (hV : wk_S D q cA A s.heap z H locs) (hl : lv_has ls 2 [(0, .ref (q 1)), (1, .int x1)]) : W p l e R s m args below meth c H locs ce sl Q (F0 m 0 ls []) := by
  have J17 : ∀ (y0 : Int32) (z : Sta) (H : Heap) (locs : List Loc) (ls : Array Slot), wk_S D q cA A s.heap z H locs → lv_has ls 2 [] → pj_P_hasBlock_17 K y0 z → W p l e R s m args below meth c H locs ce sl Q (F0 m 17 ls [.int y0]) := by
    intro y0 z H locs ls hV hl h
    unfold pj_P_hasBlock_17 at h
    obtain ⟨hz, h⟩ := h
    exact hret y0 z H locs 17 ls h hz hV kd_prog_4_method_2_code_17
  have J16 : ∀ (z : Sta) (H : Heap) (locs : List Loc) (ls : Array Slot), wk_S D q cA A s.heap z H locs → lv_has ls 2 [] → pj_P_hasBlock_16 K z → W p l e R s m args below meth c H locs ce sl Q (F0 m 16 ls []) := by
    intro z H locs ls hV hl h
    unfold pj_P_hasBlock_16 at h
    refine lv_iconst (v := 0) hx hb kd_prog_4_method_2_code_16 (by decide) ?_
    exact J17 0 z H locs ls hV (lv_sub hl [] rfl) h
  unfold wp_P_hasBlock at h
  refine lv_iload_n hx hb kd_prog_4_method_2_code_0 rfl (lv_at hl 1 rfl) ?_
  refine lv_if_lt (tgt := 16) hx hb kd_prog_4_method_2_code_1 (by decide) (fun hc => ?_) (fun hc => ?_)
  · have h := h.1 hc
    exact J16 z H locs ls hV (lv_sub hl [] rfl) h
  · have h := h.2 hc
    refine lv_iload_n hx hb kd_prog_4_method_2_code_4 rfl (lv_at hl 1 rfl) ?_
    refine lv_aload_n hx hb kd_prog_4_method_2_code_5 rfl (lv_at hl 0 rfl) ?_
    refine va_get (D := D) (ci := 1) (v := .int (z.1 2)) (C := kr_P) (T := kt_P) (N := kn_P) hx hb hts ki_P hown hK hV.1 1 rfl rfl 0 (by decide) (hts _ hw_30) (fun _ h9 => h9) rfl kd_prog_4_method_2_code_6 ?_
    refine lv_topi (fun v1 ev1 => ?_)
    have h := h v1 ev1
    refine lv_icmp_ge (tgt := 16) hx hb kd_prog_4_method_2_code_9 (by decide) (fun hc => ?_) (fun hc => ?_)
    · have h := h.1 hc
      exact J16 z H locs ls hV (lv_sub hl [] rfl) h
    · have h := h.2 hc
      refine lv_iconst (v := 1) hx hb kd_prog_4_method_2_code_12 (by decide) ?_
      refine lv_goto (tgt := 17) hx hb kd_prog_4_method_2_code_13 (by decide) ?_
      exact J17 1 z H locs ls hV (lv_sub hl [] rfl) h
end
set_option maxHeartbeats 4000000 in
set_option maxRecDepth 100000 in
theorem c_P_hasBlock (l : Launch) (D : va_G) (q : Nat → Nat) (cA : Nat → ClassId) (x1 : Int32) (z : Sta) (sz : Nat) (K : Int32 → Sta → Prop) (h : wp_P_hasBlock x1 z K) : Met l ke_P_hasBlock (kc_P_hasBlock :: lw_g) { frames := 0, cells := 0, slots := 0, locals := 0 } (wk_Pc D q cA [.ref (q 1), .int x1] z sz) (va_Qi K (wk_B D q cA (va_A (wW q cA z) sz)) (va_A (wW q cA z) sz)) 0 0 (va_A (wW q cA z) sz) := by
  refine Met.ofW (cc := prog_4_method_2_code) (maxL := 2) (ret := (some .boolean)) (by decide) rfl ?_
  intro p e s m args below meth c s₁ B hml hv
  obtain ⟨rfl, hsz, hP, hK, hD0⟩ := hv
  have hx := B.exec
  have hb := B.bytes
  have hr := B.returns
  have hlocks := B.notSynchronized
  have hts0 := atoms_spec (ws := kc_P_hasBlock :: lw_g) B.pre
  have hts : ∀ w ∈ lw_g, w.before ([.ref (q 1), .int x1] : List Value).toArray s = true := fun w hw => hts0 w (List.mem_cons_of_mem _ hw)
  have hown : s.vm.findClass kr_P = some m.cls := findClass_of_methodNamed B.named
  subst hsz
  have hD := hD0.self (sz := s.heap.size)
  generalize hAe : va_A (wW q cA z) s.heap.size = A at hD ⊢
  have hA : ∀ x : Nat, s.heap.size ≤ x → A x := fun x hx => by rw [← hAe]; exact Or.inr hx
  have hl := lv_entry ([.ref (q 1), .int x1]) (n := 2) (Nat.le_of_ble_eq_true rfl)
  rw [lg_entry_eq]
  generalize (lg_sl ([.ref (q 1), .int x1]) ++ List.replicate (2 - (lg_sl ([.ref (q 1), .int x1])).length) Slot.unset).toArray = ls at hl ⊢
  have hl : lv_has ls 2 [(0, .ref (q 1)), (1, .int x1)] := hl
  exact w_P_hasBlock hx hb hml hown hts (Nat.le_refl _) (Nat.le_refl _) (Nat.zero_le _) (Nat.zero_le _) hA hK x1 z K h (fun r u H locs pc ls hk hz hV hd => W.zret (ty := .boolean) hx hb hr (by rcases hz with rfl | rfl <;> rfl) (fun t ht hW => ⟨⟨r, u, rfl, hk, by rw [ht]; exact hV.1, va_K.moved hW.alike hK, hV.2.1⟩, hV.2.2.F ht⟩) hV.2.2.2.2 hd) ⟨hP, hD, va_S.rf⟩ hl
section
variable {p : Program} {l : Launch} {e : Env} {R : Room} {s : State} {m : MethodId} {args : Array Value} {below : List Frame} {meth : Method} {c : Code} {Q : State → Prop} {ce sl : Nat} {D : va_G} {q : Nat → Nat} {cA : Nat → ClassId} {A : Nat → Prop}
set_option maxHeartbeats 4000000 in
set_option maxRecDepth 100000 in
theorem w_P_isWhole (hx : p.tables.exec = Jvm.exec) (hb : c.code = prog_4_method_9_code) (hml : c.maxLocals = 2) (hown : s.vm.findClass kr_P = some m.cls) (hts : ∀ w ∈ lw_g, w.before args s = true) (hRf : 0 ≤ R.frames) (hRl : 0 ≤ R.locals) (hce : ce ≤ R.cells) (hsl : sl ≤ R.slots) (hA : ∀ x, s.heap.size ≤ x → A x) (hK : va_K D wk_cl (tysW cA) s) (z : Sta) (K : Int32 → Sta → Prop) (h : wp_P_isWhole z K) (hret : ∀ (r : Int32) (u : Sta) (H : Heap) (locs : List Loc) (pc : Nat) (ls : Array Slot), K r u → (r = 0 ∨ r = 1) → wk_S D q cA A s.heap u H locs → decode prog_4_method_9_code pc = .ok (.ireturn, 1) → W p l e R s m args below meth c H locs ce sl Q (F0 m pc ls [.int r])) {H : Heap} {locs : List Loc} {ls : Array Slot} (hV : wk_S D q cA A s.heap z H locs) (hl : lv_has ls 2 [(0, .ref (q 1))]) : W p l e R s m args below meth c H locs ce sl Q (F0 m 0 ls []) := by
  have J36 : ∀ (z : Sta) (H : Heap) (locs : List Loc) (ls : Array Slot), wk_S D q cA A s.heap z H locs → lv_has ls 2 [] → pj_P_isWhole_36 K z → W p l e R s m args below meth c H locs ce sl Q (F0 m 36 ls []) := by
    intro z H locs ls hV hl h
    unfold pj_P_isWhole_36 at h
    refine lv_iconst (v := 0) hx hb kd_prog_4_method_9_code_36 (by decide) ?_
    obtain ⟨hz, h⟩ := h
    exact hret 0 z H locs 37 ls h hz hV kd_prog_4_method_9_code_37
  have L2 : ∀ (n : Nat) (x1 : Int32) (z : Sta) (H : Heap) (locs : List Loc) (ls : Array Slot), wk_S D q cA A s.heap z H locs → lv_has ls 2 [(0, .ref (q 1)), (1, .int x1)] → lp_P_isWhole_2 K n x1 z → W p l e R s m args below meth c H locs ce sl Q (F0 m 2 ls []) := by
    intro n2
    induction n2 with
    | zero => intro x1 z H locs ls hV hl h; rw [lp_P_isWhole_2] at h; exact h.elim
    | succ n2 ih2 =>
      intro x1 z H locs ls hV hl h
      rw [lp_P_isWhole_2] at h
      refine lv_iload_n hx hb kd_prog_4_method_9_code_2 rfl (lv_at hl 1 rfl) ?_
      refine lv_aload_n hx hb kd_prog_4_method_9_code_3 rfl (lv_at hl 0 rfl) ?_
      refine va_get (D := D) (ci := 1) (v := .int (z.1 2)) (C := kr_P) (T := kt_P) (N := kn_P) hx hb hts ki_P hown hK hV.1 1 rfl rfl 0 (by decide) (hts _ hw_30) (fun _ h9 => h9) rfl kd_prog_4_method_9_code_4 ?_
      refine lv_topi (fun v1 ev1 => ?_)
      have h := h v1 ev1
      refine lv_icmp_ge (tgt := 44) hx hb kd_prog_4_method_9_code_7 (by decide) (fun hc => ?_) (fun hc => ?_)
      · have h := h.1 hc
        refine lv_iconst (v := 1) hx hb kd_prog_4_method_9_code_44 (by decide) ?_
        obtain ⟨hz, h⟩ := h
        exact hret 1 z H locs 45 ls h hz hV kd_prog_4_method_9_code_45
      · have h := h.2 hc
        refine lv_aload_n hx hb kd_prog_4_method_9_code_10 rfl (lv_at hl 0 rfl) ?_
        refine va_get (D := D) (ci := 1) (v := .ref (q 10)) (C := kr_P) (T := kt_P) (N := kn_P) hx hb hts ki_P hown hK hV.1 1 rfl rfl 7 (by decide) (hts _ hw_51) (fun _ h9 => h9) rfl kd_prog_4_method_9_code_11 ?_
        refine lv_iload_n hx hb kd_prog_4_method_9_code_14 rfl (lv_at hl 1 rfl) ?_
        obtain ⟨hin, h⟩ := h
        refine va_iald hx hb hK hV.1 10 5 rfl rfl hin kd_prog_4_method_9_code_15 ?_
        refine lv_topi (fun v2 ev2 => ?_)
        have h := h v2 ev2
        refine lv_aload_n hx hb kd_prog_4_method_9_code_16 rfl (lv_at hl 0 rfl) ?_
        refine va_get (D := D) (ci := 1) (v := .int (z.1 2)) (C := kr_P) (T := kt_P) (N := kn_P) hx hb hts ki_P hown hK hV.1 1 rfl rfl 0 (by decide) (hts _ hw_30) (fun _ h9 => h9) rfl kd_prog_4_method_9_code_17 ?_
        refine lv_topi (fun v3 ev3 => ?_)
        have h := h v3 ev3
        refine lv_icmp_ge (tgt := 36) hx hb kd_prog_4_method_9_code_20 (by decide) (fun hc => ?_) (fun hc => ?_)
        · have h := h.1 hc
          exact J36 z H locs ls hV (lv_sub hl [] rfl) h
        · have h := h.2 hc
          refine lv_aload_n hx hb kd_prog_4_method_9_code_23 rfl (lv_at hl 0 rfl) ?_
          refine va_get (D := D) (ci := 1) (v := .ref (q 11)) (C := kr_P) (T := kt_P) (N := kn_P) hx hb hts ki_P hown hK hV.1 1 rfl rfl 8 (by decide) (hts _ hw_54) (fun _ h9 => h9) rfl kd_prog_4_method_9_code_24 ?_
          refine lv_iload_n hx hb kd_prog_4_method_9_code_27 rfl (lv_at hl 1 rfl) ?_
          obtain ⟨hin, h⟩ := h
          refine va_iald hx hb hK hV.1 11 6 rfl rfl hin kd_prog_4_method_9_code_28 ?_
          refine lv_topi (fun v4 ev4 => ?_)
          have h := h v4 ev4
          refine lv_aload_n hx hb kd_prog_4_method_9_code_29 rfl (lv_at hl 0 rfl) ?_
          refine va_get (D := D) (ci := 1) (v := .int (z.1 2)) (C := kr_P) (T := kt_P) (N := kn_P) hx hb hts ki_P hown hK hV.1 1 rfl rfl 0 (by decide) (hts _ hw_30) (fun _ h9 => h9) rfl kd_prog_4_method_9_code_30 ?_
          refine lv_topi (fun v5 ev5 => ?_)
          have h := h v5 ev5
          refine lv_icmp_lt (tgt := 38) hx hb kd_prog_4_method_9_code_33 (by decide) (fun hc => ?_) (fun hc => ?_)
          · have h := h.1 hc
            obtain ⟨v6, ev6⟩ : ∃ v : Int32, v = x1 + 1 := ⟨_, rfl⟩
            have h := h v6 ev6
            refine lv_iinc (v := v6) (k := 1) hx hb kd_prog_4_method_9_code_38 hl rfl (by rw [ev6]; rfl) (by decide) rfl (fun ls hl => ?_)
            have hl : lv_has ls 2 [(1, .int v6), (0, .ref (q 1))] := hl
            refine lv_goto (tgt := 2) hx hb kd_prog_4_method_9_code_41 (by decide) ?_
            exact ih2 v6 z H locs ls hV (lv_sub hl [1, 0] rfl) h
          · have h := h.2 hc
            exact J36 z H locs ls hV (lv_sub hl [] rfl) h
  unfold wp_P_isWhole at h
  refine lv_iconst (v := 0) hx hb kd_prog_4_method_9_code_0 (by decide) ?_
  refine lv_istore_n hx hb kd_prog_4_method_9_code_1 rfl hl (by decide) rfl (fun ls hl => ?_)
  have hl : lv_has ls 2 [(1, .int 0), (0, .ref (q 1))] := hl
  obtain ⟨n2, h⟩ := h
  exact L2 n2 0 z H locs ls hV (lv_sub hl [1, 0] rfl) h
end
set_option maxHeartbeats 4000000 in
set_option maxRecDepth 100000 in
theorem c_P_isWhole (l : Launch) (D : va_G) (q : Nat → Nat) (cA : Nat → ClassId) (z : Sta) (sz : Nat) (K : Int32 → Sta → Prop) (h : wp_P_isWhole z K) : Met l ke_P_isWhole (kc_P_isWhole :: lw_g) { frames := 0, cells := 0, slots := 0, locals := 0 } (wk_Pc D q cA [.ref (q 1)] z sz) (va_Qi K (wk_B D q cA (va_A (wW q cA z) sz)) (va_A (wW q cA z) sz)) 0 0 (va_A (wW q cA z) sz) := by
  refine Met.ofW (cc := prog_4_method_9_code) (maxL := 2) (ret := (some .boolean)) (by decide) rfl ?_
  intro p e s m args below meth c s₁ B hml hv
  obtain ⟨rfl, hsz, hP, hK, hD0⟩ := hv
  have hx := B.exec
  have hb := B.bytes
  have hr := B.returns
  have hlocks := B.notSynchronized
  have hts0 := atoms_spec (ws := kc_P_isWhole :: lw_g) B.pre
  have hts : ∀ w ∈ lw_g, w.before ([.ref (q 1)] : List Value).toArray s = true := fun w hw => hts0 w (List.mem_cons_of_mem _ hw)
  have hown : s.vm.findClass kr_P = some m.cls := findClass_of_methodNamed B.named
  subst hsz
  have hD := hD0.self (sz := s.heap.size)
  generalize hAe : va_A (wW q cA z) s.heap.size = A at hD ⊢
  have hA : ∀ x : Nat, s.heap.size ≤ x → A x := fun x hx => by rw [← hAe]; exact Or.inr hx
  have hl := lv_entry ([.ref (q 1)]) (n := 2) (Nat.le_of_ble_eq_true rfl)
  rw [lg_entry_eq]
  generalize (lg_sl ([.ref (q 1)]) ++ List.replicate (2 - (lg_sl ([.ref (q 1)])).length) Slot.unset).toArray = ls at hl ⊢
  have hl : lv_has ls 2 [(0, .ref (q 1))] := hl
  exact w_P_isWhole hx hb hml hown hts (Nat.le_refl _) (Nat.le_refl _) (Nat.zero_le _) (Nat.zero_le _) hA hK z K h (fun r u H locs pc ls hk hz hV hd => W.zret (ty := .boolean) hx hb hr (by rcases hz with rfl | rfl <;> rfl) (fun t ht hW => ⟨⟨r, u, rfl, hk, by rw [ht]; exact hV.1, va_K.moved hW.alike hK, hV.2.1⟩, hV.2.2.F ht⟩) hV.2.2.2.2 hd) ⟨hP, hD, va_S.rf⟩ hl
section
variable {p : Program} {l : Launch} {e : Env} {R : Room} {s : State} {m : MethodId} {args : Array Value} {below : List Frame} {meth : Method} {c : Code} {Q : State → Prop} {ce sl : Nat} {D : va_G} {q : Nat → Nat} {cA : Nat → ClassId} {A : Nat → Prop}
set_option maxHeartbeats 4000000 in
set_option maxRecDepth 100000 in
theorem w_G_bitCount (hx : p.tables.exec = Jvm.exec) (hb : c.code = prog_11_method_50_code) (hml : c.maxLocals = 2) (hown : s.vm.findClass kr_G = some m.cls) (hts : ∀ w ∈ lw_g, w.before args s = true) (hRf : 0 ≤ R.frames) (hRl : 0 ≤ R.locals) (hce : ce ≤ R.cells) (hsl : sl ≤ R.slots) (hA : ∀ x, s.heap.size ≤ x → A x) (hK : va_K D wk_cl (tysW cA) s) (x0 : Int64) (z : Sta) (K : Int32 → Sta → Prop) (h : wp_G_bitCount x0 z K) (hret : ∀ (r : Int32) (u : Sta) (H : Heap) (locs : List Loc) (pc : Nat) (ls : Array Slot), K r u → wk_S D q cA A s.heap u H locs → decode prog_11_method_50_code pc = .ok (.ireturn, 1) → W p l e R s m args below meth c H locs ce sl Q (F0 m pc ls [.int r])) {H : Heap} {locs : List Loc} {ls : Array Slot} (hV : wk_S D q cA A s.heap z H locs) (hl : lv_has ls 2 [(0, .long x0)]) : W p l e R s m args below meth c H locs ce sl Q (F0 m 0 ls []) := by
  unfold wp_G_bitCount at h
  refine lv_lload_n hx hb kd_prog_11_method_50_code_0 rfl (lv_at hl 0 rfl) ?_
  refine lv_lload_n hx hb kd_prog_11_method_50_code_1 rfl (lv_at hl 0 rfl) ?_
  refine lv_iconst (v := 1) hx hb kd_prog_11_method_50_code_2 (by decide) ?_
  refine lv_lushr hx hb kd_prog_11_method_50_code_3 rfl ?_
  refine lv_topl (fun v1 ev1 => ?_)
  have h := h v1 ev1
  refine lv_ldc2 (v := 6148914691236517205) hx hb hown (hts _ hw_434) kd_prog_11_method_50_code_4 ?_
  refine lv_land hx hb kd_prog_11_method_50_code_7 ?_
  refine lv_topl (fun v2 ev2 => ?_)
  have h := h v2 ev2
  refine lv_lsub hx hb kd_prog_11_method_50_code_8 ?_
  refine lv_topl (fun v3 ev3 => ?_)
  have h := h v3 ev3
  refine lv_lstore_n hx hb kd_prog_11_method_50_code_9 rfl hl (by decide) rfl (fun ls hl => ?_)
  have hl : lv_has ls 2 [(0, .long v3)] := hl
  refine lv_lload_n hx hb kd_prog_11_method_50_code_10 rfl (lv_at hl 0 rfl) ?_
  refine lv_ldc2 (v := 3689348814741910323) hx hb hown (hts _ hw_435) kd_prog_11_method_50_code_11 ?_
  refine lv_land hx hb kd_prog_11_method_50_code_14 ?_
  refine lv_topl (fun v4 ev4 => ?_)
  have h := h v4 ev4
  refine lv_lload_n hx hb kd_prog_11_method_50_code_15 rfl (lv_at hl 0 rfl) ?_
  refine lv_iconst (v := 2) hx hb kd_prog_11_method_50_code_16 (by decide) ?_
  refine lv_lushr hx hb kd_prog_11_method_50_code_17 rfl ?_
  refine lv_topl (fun v5 ev5 => ?_)
  have h := h v5 ev5
  refine lv_ldc2 (v := 3689348814741910323) hx hb hown (hts _ hw_435) kd_prog_11_method_50_code_18 ?_
  refine lv_land hx hb kd_prog_11_method_50_code_21 ?_
  refine lv_topl (fun v6 ev6 => ?_)
  have h := h v6 ev6
  refine lv_ladd hx hb kd_prog_11_method_50_code_22 ?_
  refine lv_topl (fun v7 ev7 => ?_)
  have h := h v7 ev7
  refine lv_lstore_n hx hb kd_prog_11_method_50_code_23 rfl hl (by decide) rfl (fun ls hl => ?_)
  have hl : lv_has ls 2 [(0, .long v7)] := hl
  refine lv_lload_n hx hb kd_prog_11_method_50_code_24 rfl (lv_at hl 0 rfl) ?_
  refine lv_lload_n hx hb kd_prog_11_method_50_code_25 rfl (lv_at hl 0 rfl) ?_
  refine lv_iconst (v := 4) hx hb kd_prog_11_method_50_code_26 (by decide) ?_
  refine lv_lushr hx hb kd_prog_11_method_50_code_27 rfl ?_
  refine lv_topl (fun v8 ev8 => ?_)
  have h := h v8 ev8
  refine lv_ladd hx hb kd_prog_11_method_50_code_28 ?_
  refine lv_topl (fun v9 ev9 => ?_)
  have h := h v9 ev9
  refine lv_ldc2 (v := 1085102592571150095) hx hb hown (hts _ hw_436) kd_prog_11_method_50_code_29 ?_
  refine lv_land hx hb kd_prog_11_method_50_code_32 ?_
  refine lv_topl (fun v10 ev10 => ?_)
  have h := h v10 ev10
  refine lv_lstore_n hx hb kd_prog_11_method_50_code_33 rfl hl (by decide) rfl (fun ls hl => ?_)
  have hl : lv_has ls 2 [(0, .long v10)] := hl
  refine lv_lload_n hx hb kd_prog_11_method_50_code_34 rfl (lv_at hl 0 rfl) ?_
  refine lv_lload_n hx hb kd_prog_11_method_50_code_35 rfl (lv_at hl 0 rfl) ?_
  refine lv_bipush (v := 8) hx hb kd_prog_11_method_50_code_36 (by decide) ?_
  refine lv_lushr hx hb kd_prog_11_method_50_code_38 rfl ?_
  refine lv_topl (fun v11 ev11 => ?_)
  have h := h v11 ev11
  refine lv_ladd hx hb kd_prog_11_method_50_code_39 ?_
  refine lv_topl (fun v12 ev12 => ?_)
  have h := h v12 ev12
  refine lv_lstore_n hx hb kd_prog_11_method_50_code_40 rfl hl (by decide) rfl (fun ls hl => ?_)
  have hl : lv_has ls 2 [(0, .long v12)] := hl
  refine lv_lload_n hx hb kd_prog_11_method_50_code_41 rfl (lv_at hl 0 rfl) ?_
  refine lv_lload_n hx hb kd_prog_11_method_50_code_42 rfl (lv_at hl 0 rfl) ?_
  refine lv_bipush (v := 16) hx hb kd_prog_11_method_50_code_43 (by decide) ?_
  refine lv_lushr hx hb kd_prog_11_method_50_code_45 rfl ?_
  refine lv_topl (fun v13 ev13 => ?_)
  have h := h v13 ev13
  refine lv_ladd hx hb kd_prog_11_method_50_code_46 ?_
  refine lv_topl (fun v14 ev14 => ?_)
  have h := h v14 ev14
  refine lv_lstore_n hx hb kd_prog_11_method_50_code_47 rfl hl (by decide) rfl (fun ls hl => ?_)
  have hl : lv_has ls 2 [(0, .long v14)] := hl
  refine lv_lload_n hx hb kd_prog_11_method_50_code_48 rfl (lv_at hl 0 rfl) ?_
  refine lv_lload_n hx hb kd_prog_11_method_50_code_49 rfl (lv_at hl 0 rfl) ?_
  refine lv_bipush (v := 32) hx hb kd_prog_11_method_50_code_50 (by decide) ?_
  refine lv_lushr hx hb kd_prog_11_method_50_code_52 rfl ?_
  refine lv_topl (fun v15 ev15 => ?_)
  have h := h v15 ev15
  refine lv_ladd hx hb kd_prog_11_method_50_code_53 ?_
  refine lv_topl (fun v16 ev16 => ?_)
  have h := h v16 ev16
  refine lv_lstore_n hx hb kd_prog_11_method_50_code_54 rfl hl (by decide) rfl (fun ls hl => ?_)
  have hl : lv_has ls 2 [(0, .long v16)] := hl
  refine lv_lload_n hx hb kd_prog_11_method_50_code_55 rfl (lv_at hl 0 rfl) ?_
  refine lv_l2i hx hb kd_prog_11_method_50_code_56 rfl ?_
  refine lv_topi (fun v17 ev17 => ?_)
  have h := h v17 ev17
  refine lv_bipush (v := 127) hx hb kd_prog_11_method_50_code_57 (by decide) ?_
  refine lv_iand hx hb kd_prog_11_method_50_code_59 ?_
  refine lv_topi (fun v18 ev18 => ?_)
  have h := h v18 ev18
  exact hret v18 z H locs 60 ls h hV kd_prog_11_method_50_code_60
end
set_option maxHeartbeats 4000000 in
set_option maxRecDepth 100000 in
theorem c_G_bitCount (l : Launch) (D : va_G) (q : Nat → Nat) (cA : Nat → ClassId) (x0 : Int64) (z : Sta) (sz : Nat) (K : Int32 → Sta → Prop) (h : wp_G_bitCount x0 z K) : Met l ke_G_bitCount (kc_G_bitCount :: lw_g) { frames := 0, cells := 0, slots := 0, locals := 0 } (wk_Pc D q cA [.long x0] z sz) (va_Qi K (wk_B D q cA (va_A (wW q cA z) sz)) (va_A (wW q cA z) sz)) 0 0 (va_A (wW q cA z) sz) := by
  refine Met.ofW (cc := prog_11_method_50_code) (maxL := 2) (ret := (some .int)) (by decide) rfl ?_
  intro p e s m args below meth c s₁ B hml hv
  obtain ⟨rfl, hsz, hP, hK, hD0⟩ := hv
  have hx := B.exec
  have hb := B.bytes
  have hr := B.returns
  have hlocks := B.notSynchronized
  have hts0 := atoms_spec (ws := kc_G_bitCount :: lw_g) B.pre
  have hts : ∀ w ∈ lw_g, w.before ([.long x0] : List Value).toArray s = true := fun w hw => hts0 w (List.mem_cons_of_mem _ hw)
  have hown : s.vm.findClass kr_G = some m.cls := findClass_of_methodNamed B.named
  subst hsz
  have hD := hD0.self (sz := s.heap.size)
  generalize hAe : va_A (wW q cA z) s.heap.size = A at hD ⊢
  have hA : ∀ x : Nat, s.heap.size ≤ x → A x := fun x hx => by rw [← hAe]; exact Or.inr hx
  have hl := lv_entry ([.long x0]) (n := 2) (Nat.le_of_ble_eq_true rfl)
  rw [lg_entry_eq]
  generalize (lg_sl ([.long x0]) ++ List.replicate (2 - (lg_sl ([.long x0])).length) Slot.unset).toArray = ls at hl ⊢
  have hl : lv_has ls 2 [(0, .long x0)] := hl
  exact w_G_bitCount hx hb hml hown hts (Nat.le_refl _) (Nat.le_refl _) (Nat.zero_le _) (Nat.zero_le _) hA hK x0 z K h (fun r u H locs pc ls hk hV hd => W.iret hx hb hr (fun t ht hW => ⟨⟨r, u, rfl, hk, by rw [ht]; exact hV.1, va_K.moved hW.alike hK, hV.2.1⟩, hV.2.2.F ht⟩) hV.2.2.2.2 hd) ⟨hP, hD, va_S.rf⟩ hl
section
variable {p : Program} {l : Launch} {e : Env} {R : Room} {s : State} {m : MethodId} {args : Array Value} {below : List Frame} {meth : Method} {c : Code} {Q : State → Prop} {ce sl : Nat} {D : va_G} {q : Nat → Nat} {cA : Nat → ClassId} {A : Nat → Prop}
set_option maxHeartbeats 4000000 in
set_option maxRecDepth 100000 in
theorem w_A_fill_26 (hx : p.tables.exec = Jvm.exec) (hb : c.code = prog_16_method_103_code) (hml : c.maxLocals = 4) (hown : s.vm.findClass kr_A = some m.cls) (hts : ∀ w ∈ lw_g, w.before args s = true) (hRf : 0 ≤ R.frames) (hRl : 0 ≤ R.locals) (hce : ce ≤ R.cells) (hsl : sl ≤ R.slots) (hA : ∀ x, s.heap.size ≤ x → A x) (hK : va_K D wk_cl (tysW cA) s) (x1 : Int32) (z : Sta) (K : Sta → Prop) (h : wp_A_fill_26 x1 z K) (hret : ∀ (u : Sta) (H : Heap) (locs : List Loc) (pc : Nat) (ls : Array Slot), K u → wk_S D q cA A s.heap u H locs → decode prog_16_method_103_code pc = .ok (.return_, 1) → W p l e R s m args below meth c H locs ce sl Q (F0 m pc ls [])) {H : Heap} {locs : List Loc} {ls : Array Slot} (hV : wk_S D q cA A s.heap z H locs) (hl : lv_has ls 4 [(0, .ref (q 26)), (1, .int x1)]) : W p l e R s m args below meth c H locs ce sl Q (F0 m 0 ls []) := by
  have L5 : ∀ (n : Nat) (x1 : Int32) (x2 : Int32) (x3 : Int32) (z : Sta) (H : Heap) (locs : List Loc) (ls : Array Slot), wk_S D q cA A s.heap z H locs → lv_has ls 4 [(0, .ref (q 26)), (1, .int x1), (2, .int x2), (3, .int x3)] → lp_A_fill_26_5 K n x1 x2 x3 z → W p l e R s m args below meth c H locs ce sl Q (F0 m 5 ls []) := by
    intro n5
    induction n5 with
    | zero => intro x1 x2 x3 z H locs ls hV hl h; rw [lp_A_fill_26_5] at h; exact h.elim
    | succ n5 ih5 =>
      intro x1 x2 x3 z H locs ls hV hl h
      rw [lp_A_fill_26_5] at h
      refine lv_iload_n hx hb kd_prog_16_method_103_code_5 rfl (lv_at hl 2 rfl) ?_
      refine lv_iload_n hx hb kd_prog_16_method_103_code_6 rfl (lv_at hl 3 rfl) ?_
      refine lv_icmp_ge (tgt := 20) hx hb kd_prog_16_method_103_code_7 (by decide) (fun hc => ?_) (fun hc => ?_)
      · have h := h.1 hc
        exact hret z H locs 20 ls h hV kd_prog_16_method_103_code_20
      · have h := h.2 hc
        refine lv_aload_n hx hb kd_prog_16_method_103_code_10 rfl (lv_at hl 0 rfl) ?_
        refine lv_iload_n hx hb kd_prog_16_method_103_code_11 rfl (lv_at hl 2 rfl) ?_
        refine lv_iload_n hx hb kd_prog_16_method_103_code_12 rfl (lv_at hl 1 rfl) ?_
        obtain ⟨hin, h⟩ := h
        refine wk_iast hx hb hK hV 26 21 11 rfl rfl (ks_26 q cA z) hin kd_prog_16_method_103_code_13 (fun H locs hV => ?_)
        obtain ⟨z2, ez2⟩ : ∃ x : Sta, x = zA z 11 (upd (z.2.1 11) x2.toNatClampNeg x1) := ⟨_, rfl⟩
        rw [← ez2] at hV
        have h := h z2 ez2
        obtain ⟨v3, ev3⟩ : ∃ v : Int32, v = x2 + 1 := ⟨_, rfl⟩
        have h := h v3 ev3
        refine lv_iinc (v := v3) (k := 2) hx hb kd_prog_16_method_103_code_14 hl rfl (by rw [ev3]; rfl) (by decide) rfl (fun ls hl => ?_)
        have hl : lv_has ls 4 [(2, .int v3), (0, .ref (q 26)), (1, .int x1), (3, .int x3)] := hl
        refine lv_goto (tgt := 5) hx hb kd_prog_16_method_103_code_17 (by decide) ?_
        exact ih5 x1 v3 x3 z2 H locs ls hV (lv_sub hl [1, 2, 0, 3] rfl) h
  unfold wp_A_fill_26 at h
  refine lv_iconst (v := 0) hx hb kd_prog_16_method_103_code_0 (by decide) ?_
  refine lv_istore_n hx hb kd_prog_16_method_103_code_1 rfl hl (by decide) rfl (fun ls hl => ?_)
  have hl : lv_has ls 4 [(2, .int 0), (0, .ref (q 26)), (1, .int x1)] := hl
  refine lv_aload_n hx hb kd_prog_16_method_103_code_2 rfl (lv_at hl 1 rfl) ?_
  refine va_alen hx hb hK hV.1 26 21 rfl rfl rfl kd_prog_16_method_103_code_3 ?_
  refine lv_topi (fun v1 ev1 => ?_)
  have h := h v1 ev1
  refine lv_istore_n hx hb kd_prog_16_method_103_code_4 rfl hl (by decide) rfl (fun ls hl => ?_)
  have hl : lv_has ls 4 [(3, .int v1), (2, .int 0), (0, .ref (q 26)), (1, .int x1)] := hl
  obtain ⟨n5, h⟩ := h
  exact L5 n5 x1 0 v1 z H locs ls hV (lv_sub hl [2, 3, 1, 0] rfl) h
end
set_option maxHeartbeats 4000000 in
set_option maxRecDepth 100000 in
theorem c_A_fill_26 (l : Launch) (D : va_G) (q : Nat → Nat) (cA : Nat → ClassId) (x1 : Int32) (z : Sta) (sz : Nat) (K : Sta → Prop) (h : wp_A_fill_26 x1 z K) : Met l ke_A_fill (kc_A_fill :: lw_g) { frames := 0, cells := 0, slots := 0, locals := 0 } (wk_Pc D q cA [.ref (q 26), .int x1] z sz) (va_Qv K (wk_B D q cA (va_A (wW q cA z) sz)) (va_A (wW q cA z) sz)) 0 0 (va_A (wW q cA z) sz) := by
  refine Met.ofW (cc := prog_16_method_103_code) (maxL := 4) (ret := none) (by decide) rfl ?_
  intro p e s m args below meth c s₁ B hml hv
  obtain ⟨rfl, hsz, hP, hK, hD0⟩ := hv
  have hx := B.exec
  have hb := B.bytes
  have hr := B.returns
  have hlocks := B.notSynchronized
  have hts0 := atoms_spec (ws := kc_A_fill :: lw_g) B.pre
  have hts : ∀ w ∈ lw_g, w.before ([.ref (q 26), .int x1] : List Value).toArray s = true := fun w hw => hts0 w (List.mem_cons_of_mem _ hw)
  have hown : s.vm.findClass kr_A = some m.cls := findClass_of_methodNamed B.named
  subst hsz
  have hD := hD0.self (sz := s.heap.size)
  generalize hAe : va_A (wW q cA z) s.heap.size = A at hD ⊢
  have hA : ∀ x : Nat, s.heap.size ≤ x → A x := fun x hx => by rw [← hAe]; exact Or.inr hx
  have hl := lv_entry ([.ref (q 26), .int x1]) (n := 4) (Nat.le_of_ble_eq_true rfl)
  rw [lg_entry_eq]
  generalize (lg_sl ([.ref (q 26), .int x1]) ++ List.replicate (4 - (lg_sl ([.ref (q 26), .int x1])).length) Slot.unset).toArray = ls at hl ⊢
  have hl : lv_has ls 4 [(0, .ref (q 26)), (1, .int x1)] := hl
  exact w_A_fill_26 hx hb hml hown hts (Nat.le_refl _) (Nat.le_refl _) (Nat.zero_le _) (Nat.zero_le _) hA hK x1 z K h (fun u H locs pc ls hk hV hd => W.vret hx hb hr (fun t ht hW => ⟨⟨u, rfl, hk, by rw [ht]; exact hV.1, va_K.moved hW.alike hK, hV.2.1⟩, hV.2.2.F ht⟩) hV.2.2.2.2 hd) ⟨hP, hD, va_S.rf⟩ hl
section
variable {p : Program} {l : Launch} {e : Env} {R : Room} {s : State} {m : MethodId} {args : Array Value} {below : List Frame} {meth : Method} {c : Code} {Q : State → Prop} {ce sl : Nat} {D : va_G} {q : Nat → Nat} {cA : Nat → ClassId} {A : Nat → Prop}
set_option maxHeartbeats 4000000 in
set_option maxRecDepth 100000 in
theorem w_A_fill_27 (hx : p.tables.exec = Jvm.exec) (hb : c.code = prog_16_method_103_code) (hml : c.maxLocals = 4) (hown : s.vm.findClass kr_A = some m.cls) (hts : ∀ w ∈ lw_g, w.before args s = true) (hRf : 0 ≤ R.frames) (hRl : 0 ≤ R.locals) (hce : ce ≤ R.cells) (hsl : sl ≤ R.slots) (hA : ∀ x, s.heap.size ≤ x → A x) (hK : va_K D wk_cl (tysW cA) s) (x1 : Int32) (z : Sta) (K : Sta → Prop) (h : wp_A_fill_27 x1 z K) (hret : ∀ (u : Sta) (H : Heap) (locs : List Loc) (pc : Nat) (ls : Array Slot), K u → wk_S D q cA A s.heap u H locs → decode prog_16_method_103_code pc = .ok (.return_, 1) → W p l e R s m args below meth c H locs ce sl Q (F0 m pc ls [])) {H : Heap} {locs : List Loc} {ls : Array Slot} (hV : wk_S D q cA A s.heap z H locs) (hl : lv_has ls 4 [(0, .ref (q 27)), (1, .int x1)]) : W p l e R s m args below meth c H locs ce sl Q (F0 m 0 ls []) := by
  have L5 : ∀ (n : Nat) (x1 : Int32) (x2 : Int32) (x3 : Int32) (z : Sta) (H : Heap) (locs : List Loc) (ls : Array Slot), wk_S D q cA A s.heap z H locs → lv_has ls 4 [(0, .ref (q 27)), (1, .int x1), (2, .int x2), (3, .int x3)] → lp_A_fill_27_5 K n x1 x2 x3 z → W p l e R s m args below meth c H locs ce sl Q (F0 m 5 ls []) := by
    intro n5
    induction n5 with
    | zero => intro x1 x2 x3 z H locs ls hV hl h; rw [lp_A_fill_27_5] at h; exact h.elim
    | succ n5 ih5 =>
      intro x1 x2 x3 z H locs ls hV hl h
      rw [lp_A_fill_27_5] at h
      refine lv_iload_n hx hb kd_prog_16_method_103_code_5 rfl (lv_at hl 2 rfl) ?_
      refine lv_iload_n hx hb kd_prog_16_method_103_code_6 rfl (lv_at hl 3 rfl) ?_
      refine lv_icmp_ge (tgt := 20) hx hb kd_prog_16_method_103_code_7 (by decide) (fun hc => ?_) (fun hc => ?_)
      · have h := h.1 hc
        exact hret z H locs 20 ls h hV kd_prog_16_method_103_code_20
      · have h := h.2 hc
        refine lv_aload_n hx hb kd_prog_16_method_103_code_10 rfl (lv_at hl 0 rfl) ?_
        refine lv_iload_n hx hb kd_prog_16_method_103_code_11 rfl (lv_at hl 2 rfl) ?_
        refine lv_iload_n hx hb kd_prog_16_method_103_code_12 rfl (lv_at hl 1 rfl) ?_
        obtain ⟨hin, h⟩ := h
        refine wk_iast hx hb hK hV 27 22 12 rfl rfl (ks_27 q cA z) hin kd_prog_16_method_103_code_13 (fun H locs hV => ?_)
        obtain ⟨z2, ez2⟩ : ∃ x : Sta, x = zA z 12 (upd (z.2.1 12) x2.toNatClampNeg x1) := ⟨_, rfl⟩
        rw [← ez2] at hV
        have h := h z2 ez2
        obtain ⟨v3, ev3⟩ : ∃ v : Int32, v = x2 + 1 := ⟨_, rfl⟩
        have h := h v3 ev3
        refine lv_iinc (v := v3) (k := 2) hx hb kd_prog_16_method_103_code_14 hl rfl (by rw [ev3]; rfl) (by decide) rfl (fun ls hl => ?_)
        have hl : lv_has ls 4 [(2, .int v3), (0, .ref (q 27)), (1, .int x1), (3, .int x3)] := hl
        refine lv_goto (tgt := 5) hx hb kd_prog_16_method_103_code_17 (by decide) ?_
        exact ih5 x1 v3 x3 z2 H locs ls hV (lv_sub hl [1, 2, 0, 3] rfl) h
  unfold wp_A_fill_27 at h
  refine lv_iconst (v := 0) hx hb kd_prog_16_method_103_code_0 (by decide) ?_
  refine lv_istore_n hx hb kd_prog_16_method_103_code_1 rfl hl (by decide) rfl (fun ls hl => ?_)
  have hl : lv_has ls 4 [(2, .int 0), (0, .ref (q 27)), (1, .int x1)] := hl
  refine lv_aload_n hx hb kd_prog_16_method_103_code_2 rfl (lv_at hl 1 rfl) ?_
  refine va_alen hx hb hK hV.1 27 22 rfl rfl rfl kd_prog_16_method_103_code_3 ?_
  refine lv_topi (fun v1 ev1 => ?_)
  have h := h v1 ev1
  refine lv_istore_n hx hb kd_prog_16_method_103_code_4 rfl hl (by decide) rfl (fun ls hl => ?_)
  have hl : lv_has ls 4 [(3, .int v1), (2, .int 0), (0, .ref (q 27)), (1, .int x1)] := hl
  obtain ⟨n5, h⟩ := h
  exact L5 n5 x1 0 v1 z H locs ls hV (lv_sub hl [2, 3, 1, 0] rfl) h
end
set_option maxHeartbeats 4000000 in
set_option maxRecDepth 100000 in
theorem c_A_fill_27 (l : Launch) (D : va_G) (q : Nat → Nat) (cA : Nat → ClassId) (x1 : Int32) (z : Sta) (sz : Nat) (K : Sta → Prop) (h : wp_A_fill_27 x1 z K) : Met l ke_A_fill (kc_A_fill :: lw_g) { frames := 0, cells := 0, slots := 0, locals := 0 } (wk_Pc D q cA [.ref (q 27), .int x1] z sz) (va_Qv K (wk_B D q cA (va_A (wW q cA z) sz)) (va_A (wW q cA z) sz)) 0 0 (va_A (wW q cA z) sz) := by
  refine Met.ofW (cc := prog_16_method_103_code) (maxL := 4) (ret := none) (by decide) rfl ?_
  intro p e s m args below meth c s₁ B hml hv
  obtain ⟨rfl, hsz, hP, hK, hD0⟩ := hv
  have hx := B.exec
  have hb := B.bytes
  have hr := B.returns
  have hlocks := B.notSynchronized
  have hts0 := atoms_spec (ws := kc_A_fill :: lw_g) B.pre
  have hts : ∀ w ∈ lw_g, w.before ([.ref (q 27), .int x1] : List Value).toArray s = true := fun w hw => hts0 w (List.mem_cons_of_mem _ hw)
  have hown : s.vm.findClass kr_A = some m.cls := findClass_of_methodNamed B.named
  subst hsz
  have hD := hD0.self (sz := s.heap.size)
  generalize hAe : va_A (wW q cA z) s.heap.size = A at hD ⊢
  have hA : ∀ x : Nat, s.heap.size ≤ x → A x := fun x hx => by rw [← hAe]; exact Or.inr hx
  have hl := lv_entry ([.ref (q 27), .int x1]) (n := 4) (Nat.le_of_ble_eq_true rfl)
  rw [lg_entry_eq]
  generalize (lg_sl ([.ref (q 27), .int x1]) ++ List.replicate (4 - (lg_sl ([.ref (q 27), .int x1])).length) Slot.unset).toArray = ls at hl ⊢
  have hl : lv_has ls 4 [(0, .ref (q 27)), (1, .int x1)] := hl
  exact w_A_fill_27 hx hb hml hown hts (Nat.le_refl _) (Nat.le_refl _) (Nat.zero_le _) (Nat.zero_le _) hA hK x1 z K h (fun u H locs pc ls hk hV hd => W.vret hx hb hr (fun t ht hW => ⟨⟨u, rfl, hk, by rw [ht]; exact hV.1, va_K.moved hW.alike hK, hV.2.1⟩, hV.2.2.F ht⟩) hV.2.2.2.2 hd) ⟨hP, hD, va_S.rf⟩ hl
section
variable {p : Program} {l : Launch} {e : Env} {R : Room} {s : State} {m : MethodId} {args : Array Value} {below : List Frame} {meth : Method} {c : Code} {Q : State → Prop} {ce sl : Nat} {D : va_G} {q : Nat → Nat} {cA : Nat → ClassId} {A : Nat → Prop}
set_option maxHeartbeats 4000000 in
set_option maxRecDepth 100000 in
theorem w_A_fill_29 (hx : p.tables.exec = Jvm.exec) (hb : c.code = prog_16_method_103_code) (hml : c.maxLocals = 4) (hown : s.vm.findClass kr_A = some m.cls) (hts : ∀ w ∈ lw_g, w.before args s = true) (hRf : 0 ≤ R.frames) (hRl : 0 ≤ R.locals) (hce : ce ≤ R.cells) (hsl : sl ≤ R.slots) (hA : ∀ x, s.heap.size ≤ x → A x) (hK : va_K D wk_cl (tysW cA) s) (x1 : Int32) (z : Sta) (K : Sta → Prop) (h : wp_A_fill_29 x1 z K) (hret : ∀ (u : Sta) (H : Heap) (locs : List Loc) (pc : Nat) (ls : Array Slot), K u → wk_S D q cA A s.heap u H locs → decode prog_16_method_103_code pc = .ok (.return_, 1) → W p l e R s m args below meth c H locs ce sl Q (F0 m pc ls [])) {H : Heap} {locs : List Loc} {ls : Array Slot} (hV : wk_S D q cA A s.heap z H locs) (hl : lv_has ls 4 [(0, .ref (q 29)), (1, .int x1)]) : W p l e R s m args below meth c H locs ce sl Q (F0 m 0 ls []) := by
  have L5 : ∀ (n : Nat) (x1 : Int32) (x2 : Int32) (x3 : Int32) (z : Sta) (H : Heap) (locs : List Loc) (ls : Array Slot), wk_S D q cA A s.heap z H locs → lv_has ls 4 [(0, .ref (q 29)), (1, .int x1), (2, .int x2), (3, .int x3)] → lp_A_fill_29_5 K n x1 x2 x3 z → W p l e R s m args below meth c H locs ce sl Q (F0 m 5 ls []) := by
    intro n5
    induction n5 with
    | zero => intro x1 x2 x3 z H locs ls hV hl h; rw [lp_A_fill_29_5] at h; exact h.elim
    | succ n5 ih5 =>
      intro x1 x2 x3 z H locs ls hV hl h
      rw [lp_A_fill_29_5] at h
      refine lv_iload_n hx hb kd_prog_16_method_103_code_5 rfl (lv_at hl 2 rfl) ?_
      refine lv_iload_n hx hb kd_prog_16_method_103_code_6 rfl (lv_at hl 3 rfl) ?_
      refine lv_icmp_ge (tgt := 20) hx hb kd_prog_16_method_103_code_7 (by decide) (fun hc => ?_) (fun hc => ?_)
      · have h := h.1 hc
        exact hret z H locs 20 ls h hV kd_prog_16_method_103_code_20
      · have h := h.2 hc
        refine lv_aload_n hx hb kd_prog_16_method_103_code_10 rfl (lv_at hl 0 rfl) ?_
        refine lv_iload_n hx hb kd_prog_16_method_103_code_11 rfl (lv_at hl 2 rfl) ?_
        refine lv_iload_n hx hb kd_prog_16_method_103_code_12 rfl (lv_at hl 1 rfl) ?_
        obtain ⟨hin, h⟩ := h
        refine wk_iast hx hb hK hV 29 24 14 rfl rfl (ks_29 q cA z) hin kd_prog_16_method_103_code_13 (fun H locs hV => ?_)
        obtain ⟨z2, ez2⟩ : ∃ x : Sta, x = zA z 14 (upd (z.2.1 14) x2.toNatClampNeg x1) := ⟨_, rfl⟩
        rw [← ez2] at hV
        have h := h z2 ez2
        obtain ⟨v3, ev3⟩ : ∃ v : Int32, v = x2 + 1 := ⟨_, rfl⟩
        have h := h v3 ev3
        refine lv_iinc (v := v3) (k := 2) hx hb kd_prog_16_method_103_code_14 hl rfl (by rw [ev3]; rfl) (by decide) rfl (fun ls hl => ?_)
        have hl : lv_has ls 4 [(2, .int v3), (0, .ref (q 29)), (1, .int x1), (3, .int x3)] := hl
        refine lv_goto (tgt := 5) hx hb kd_prog_16_method_103_code_17 (by decide) ?_
        exact ih5 x1 v3 x3 z2 H locs ls hV (lv_sub hl [1, 2, 0, 3] rfl) h
  unfold wp_A_fill_29 at h
  refine lv_iconst (v := 0) hx hb kd_prog_16_method_103_code_0 (by decide) ?_
  refine lv_istore_n hx hb kd_prog_16_method_103_code_1 rfl hl (by decide) rfl (fun ls hl => ?_)
  have hl : lv_has ls 4 [(2, .int 0), (0, .ref (q 29)), (1, .int x1)] := hl
  refine lv_aload_n hx hb kd_prog_16_method_103_code_2 rfl (lv_at hl 1 rfl) ?_
  refine va_alen hx hb hK hV.1 29 24 rfl rfl rfl kd_prog_16_method_103_code_3 ?_
  refine lv_topi (fun v1 ev1 => ?_)
  have h := h v1 ev1
  refine lv_istore_n hx hb kd_prog_16_method_103_code_4 rfl hl (by decide) rfl (fun ls hl => ?_)
  have hl : lv_has ls 4 [(3, .int v1), (2, .int 0), (0, .ref (q 29)), (1, .int x1)] := hl
  obtain ⟨n5, h⟩ := h
  exact L5 n5 x1 0 v1 z H locs ls hV (lv_sub hl [2, 3, 1, 0] rfl) h
end
set_option maxHeartbeats 4000000 in
set_option maxRecDepth 100000 in
theorem c_A_fill_29 (l : Launch) (D : va_G) (q : Nat → Nat) (cA : Nat → ClassId) (x1 : Int32) (z : Sta) (sz : Nat) (K : Sta → Prop) (h : wp_A_fill_29 x1 z K) : Met l ke_A_fill (kc_A_fill :: lw_g) { frames := 0, cells := 0, slots := 0, locals := 0 } (wk_Pc D q cA [.ref (q 29), .int x1] z sz) (va_Qv K (wk_B D q cA (va_A (wW q cA z) sz)) (va_A (wW q cA z) sz)) 0 0 (va_A (wW q cA z) sz) := by
  refine Met.ofW (cc := prog_16_method_103_code) (maxL := 4) (ret := none) (by decide) rfl ?_
  intro p e s m args below meth c s₁ B hml hv
  obtain ⟨rfl, hsz, hP, hK, hD0⟩ := hv
  have hx := B.exec
  have hb := B.bytes
  have hr := B.returns
  have hlocks := B.notSynchronized
  have hts0 := atoms_spec (ws := kc_A_fill :: lw_g) B.pre
  have hts : ∀ w ∈ lw_g, w.before ([.ref (q 29), .int x1] : List Value).toArray s = true := fun w hw => hts0 w (List.mem_cons_of_mem _ hw)
  have hown : s.vm.findClass kr_A = some m.cls := findClass_of_methodNamed B.named
  subst hsz
  have hD := hD0.self (sz := s.heap.size)
  generalize hAe : va_A (wW q cA z) s.heap.size = A at hD ⊢
  have hA : ∀ x : Nat, s.heap.size ≤ x → A x := fun x hx => by rw [← hAe]; exact Or.inr hx
  have hl := lv_entry ([.ref (q 29), .int x1]) (n := 4) (Nat.le_of_ble_eq_true rfl)
  rw [lg_entry_eq]
  generalize (lg_sl ([.ref (q 29), .int x1]) ++ List.replicate (4 - (lg_sl ([.ref (q 29), .int x1])).length) Slot.unset).toArray = ls at hl ⊢
  have hl : lv_has ls 4 [(0, .ref (q 29)), (1, .int x1)] := hl
  exact w_A_fill_29 hx hb hml hown hts (Nat.le_refl _) (Nat.le_refl _) (Nat.zero_le _) (Nat.zero_le _) hA hK x1 z K h (fun u H locs pc ls hk hV hd => W.vret hx hb hr (fun t ht hW => ⟨⟨u, rfl, hk, by rw [ht]; exact hV.1, va_K.moved hW.alike hK, hV.2.1⟩, hV.2.2.F ht⟩) hV.2.2.2.2 hd) ⟨hP, hD, va_S.rf⟩ hl
section
variable {p : Program} {l : Launch} {e : Env} {R : Room} {s : State} {m : MethodId} {args : Array Value} {below : List Frame} {meth : Method} {c : Code} {Q : State → Prop} {ce sl : Nat} {D : va_G} {q : Nat → Nat} {cA : Nat → ClassId} {A : Nat → Prop}
set_option maxHeartbeats 4000000 in
set_option maxRecDepth 100000 in
theorem w_P_valueOf_26 (hx : p.tables.exec = Jvm.exec) (hb : c.code = prog_4_method_10_code) (hml : c.maxLocals = 5) (hown : s.vm.findClass kr_P = some m.cls) (hts : ∀ w ∈ lw_g, w.before args s = true) (hRf : 0 ≤ R.frames) (hRl : 0 ≤ R.locals) (hce : ce ≤ R.cells) (hsl : sl ≤ R.slots) (hA : ∀ x, s.heap.size ≤ x → A x) (hK : va_K D wk_cl (tysW cA) s) (x1 : Int32) (z : Sta) (K : Int32 → Sta → Prop) (h : wp_P_valueOf_26 x1 z K) (hret : ∀ (r : Int32) (u : Sta) (H : Heap) (locs : List Loc) (pc : Nat) (ls : Array Slot), K r u → wk_S D q cA A s.heap u H locs → decode prog_4_method_10_code pc = .ok (.ireturn, 1) → W p l e R s m args below meth c H locs ce sl Q (F0 m pc ls [.int r])) {H : Heap} {locs : List Loc} {ls : Array Slot} (hV : wk_S D q cA A s.heap z H locs) (hl : lv_has ls 5 [(0, .ref (q 1)), (1, .int x1), (2, .ref (q 26))]) : W p l e R s m args below meth c H locs ce sl Q (F0 m 0 ls []) := by
  have J87 : ∀ (y0 : Int32) (z : Sta) (H : Heap) (locs : List Loc) (ls : Array Slot), wk_S D q cA A s.heap z H locs → lv_has ls 5 [] → pj_P_valueOf_26_87 K y0 z → W p l e R s m args below meth c H locs ce sl Q (F0 m 87 ls [.int y0]) := by
    intro y0 z H locs ls hV hl h
    unfold pj_P_valueOf_26_87 at h
    exact hret y0 z H locs 87 ls h hV kd_prog_4_method_10_code_87
  unfold wp_P_valueOf_26 at h
  refine lv_aload_n hx hb kd_prog_4_method_10_code_0 rfl (lv_at hl 2 rfl) ?_
  refine lv_aload_n hx hb kd_prog_4_method_10_code_1 rfl (lv_at hl 0 rfl) ?_
  refine va_get (D := D) (ci := 1) (v := .ref (q 12)) (C := kr_P) (T := kt_P) (N := kn_P) hx hb hts ki_P hown hK hV.1 1 rfl rfl 9 (by decide) (hts _ hw_57) (fun _ h9 => h9) rfl kd_prog_4_method_10_code_2 ?_
  refine lv_iload_n hx hb kd_prog_4_method_10_code_5 rfl (lv_at hl 1 rfl) ?_
  obtain ⟨hin, h⟩ := h
  refine va_iald hx hb hK hV.1 12 7 rfl rfl hin kd_prog_4_method_10_code_6 ?_
  refine lv_topi (fun v1 ev1 => ?_)
  have h := h v1 ev1
  obtain ⟨hin, h⟩ := h
  refine va_iald hx hb hK hV.1 26 21 rfl rfl hin kd_prog_4_method_10_code_7 ?_
  refine lv_topi (fun v2 ev2 => ?_)
  have h := h v2 ev2
  refine lv_istore_n hx hb kd_prog_4_method_10_code_8 rfl hl (by decide) rfl (fun ls hl => ?_)
  have hl : lv_has ls 5 [(3, .int v2), (0, .ref (q 1)), (1, .int x1), (2, .ref (q 26))] := hl
  refine lv_aload_n hx hb kd_prog_4_method_10_code_9 rfl (lv_at hl 3 rfl) ?_
  refine lv_aload_n hx hb kd_prog_4_method_10_code_10 rfl (lv_at hl 1 rfl) ?_
  refine va_get (D := D) (ci := 1) (v := .ref (q 14)) (C := kr_P) (T := kt_P) (N := kn_P) hx hb hts ki_P hown hK hV.1 1 rfl rfl 11 (by decide) (hts _ hw_59) (fun _ h9 => h9) rfl kd_prog_4_method_10_code_11 ?_
  refine lv_iload_n hx hb kd_prog_4_method_10_code_14 rfl (lv_at hl 2 rfl) ?_
  obtain ⟨hin, h⟩ := h
  refine va_iald hx hb hK hV.1 14 9 rfl rfl hin kd_prog_4_method_10_code_15 ?_
  refine lv_topi (fun v3 ev3 => ?_)
  have h := h v3 ev3
  obtain ⟨hin, h⟩ := h
  refine va_iald hx hb hK hV.1 26 21 rfl rfl hin kd_prog_4_method_10_code_16 ?_
  refine lv_topi (fun v4 ev4 => ?_)
  have h := h v4 ev4
  refine lv_istore hx hb kd_prog_4_method_10_code_17 hl (by decide) rfl (fun ls hl => ?_)
  have hl : lv_has ls 5 [(4, .int v4), (3, .int v2), (0, .ref (q 1)), (1, .int x1), (2, .ref (q 26))] := hl
  refine lv_aload_n hx hb kd_prog_4_method_10_code_19 rfl (lv_at hl 2 rfl) ?_
  refine va_get (D := D) (ci := 1) (v := .ref (q 13)) (C := kr_P) (T := kt_P) (N := kn_P) hx hb hts ki_P hown hK hV.1 1 rfl rfl 10 (by decide) (hts _ hw_58) (fun _ h9 => h9) rfl kd_prog_4_method_10_code_20 ?_
  refine lv_iload_n hx hb kd_prog_4_method_10_code_23 rfl (lv_at hl 3 rfl) ?_
  obtain ⟨hin, h⟩ := h
  refine va_iald hx hb hK hV.1 13 8 rfl rfl hin kd_prog_4_method_10_code_24 ?_
  refine lv_topi (fun v5 ev5 => ?_)
  have h := h v5 ev5
  by_cases hc0 : v5 = 0
  · have h := h.1 hc0
    refine lv_tableIn (tgt := 56) hx hb kd_prog_4_method_10_code_25 (by rw [hc0]; decide) (by rw [hc0]; decide) (by rw [hc0]; rfl) (by decide) ?_
    refine lv_iload_n hx hb kd_prog_4_method_10_code_56 rfl (lv_at hl 1 rfl) ?_
    refine lv_iload hx hb kd_prog_4_method_10_code_57 (lv_at hl 0 rfl) ?_
    refine lv_iadd hx hb kd_prog_4_method_10_code_59 ?_
    refine lv_topi (fun v6 ev6 => ?_)
    have h := h v6 ev6
    exact hret v6 z H locs 60 ls h hV kd_prog_4_method_10_code_60
  by_cases hc1 : v5 = 1
  · have h := h.2.1 hc1
    refine lv_tableIn (tgt := 61) hx hb kd_prog_4_method_10_code_25 (by rw [hc1]; decide) (by rw [hc1]; decide) (by rw [hc1]; rfl) (by decide) ?_
    refine lv_iload_n hx hb kd_prog_4_method_10_code_61 rfl (lv_at hl 1 rfl) ?_
    refine lv_iload hx hb kd_prog_4_method_10_code_62 (lv_at hl 0 rfl) ?_
    refine lv_isub hx hb kd_prog_4_method_10_code_64 ?_
    refine lv_topi (fun v7 ev7 => ?_)
    have h := h v7 ev7
    exact hret v7 z H locs 65 ls h hV kd_prog_4_method_10_code_65
  by_cases hc2 : v5 = 2
  · have h := h.2.2.1 hc2
    refine lv_tableIn (tgt := 66) hx hb kd_prog_4_method_10_code_25 (by rw [hc2]; decide) (by rw [hc2]; decide) (by rw [hc2]; rfl) (by decide) ?_
    refine lv_iload_n hx hb kd_prog_4_method_10_code_66 rfl (lv_at hl 1 rfl) ?_
    refine lv_iload hx hb kd_prog_4_method_10_code_67 (lv_at hl 0 rfl) ?_
    refine lv_imul hx hb kd_prog_4_method_10_code_69 ?_
    refine lv_topi (fun v8 ev8 => ?_)
    have h := h v8 ev8
    exact hret v8 z H locs 70 ls h hV kd_prog_4_method_10_code_70
  by_cases hc3 : v5 = 3
  · have h := h.2.2.2.1 hc3
    refine lv_tableIn (tgt := 71) hx hb kd_prog_4_method_10_code_25 (by rw [hc3]; decide) (by rw [hc3]; decide) (by rw [hc3]; rfl) (by decide) ?_
    refine lv_iload_n hx hb kd_prog_4_method_10_code_71 rfl (lv_at hl 1 rfl) ?_
    refine lv_iload hx hb kd_prog_4_method_10_code_72 (lv_at hl 0 rfl) ?_
    refine lv_iand hx hb kd_prog_4_method_10_code_74 ?_
    refine lv_topi (fun v9 ev9 => ?_)
    have h := h v9 ev9
    exact hret v9 z H locs 75 ls h hV kd_prog_4_method_10_code_75
  have h := h.2.2.2.2 ⟨hc0, hc1, hc2, hc3⟩
  refine lv_tableOut (tgt := 76) hx hb kd_prog_4_method_10_code_25 (by have t0 := lv_neT hc0 (a := 0) (by decide); have t1 := lv_neT hc1 (a := 1) (by decide); have t2 := lv_neT hc2 (a := 2) (by decide); have t3 := lv_neT hc3 (a := 3) (by decide); omega) (by decide) ?_
  refine lv_iload_n hx hb kd_prog_4_method_10_code_76 rfl (lv_at hl 1 rfl) ?_
  refine lv_iload hx hb kd_prog_4_method_10_code_77 (lv_at hl 0 rfl) ?_
  refine lv_icmp_ge (tgt := 86) hx hb kd_prog_4_method_10_code_79 (by decide) (fun hc => ?_) (fun hc => ?_)
  · have h := h.1 hc
    refine lv_iconst (v := 0) hx hb kd_prog_4_method_10_code_86 (by decide) ?_
    exact J87 0 z H locs ls hV (lv_sub hl [] rfl) h
  · have h := h.2 hc
    refine lv_iconst (v := 1) hx hb kd_prog_4_method_10_code_82 (by decide) ?_
    refine lv_goto (tgt := 87) hx hb kd_prog_4_method_10_code_83 (by decide) ?_
    exact J87 1 z H locs ls hV (lv_sub hl [] rfl) h
end
set_option maxHeartbeats 4000000 in
set_option maxRecDepth 100000 in
theorem c_P_valueOf_26 (l : Launch) (D : va_G) (q : Nat → Nat) (cA : Nat → ClassId) (x1 : Int32) (z : Sta) (sz : Nat) (K : Int32 → Sta → Prop) (h : wp_P_valueOf_26 x1 z K) : Met l ke_P_valueOf (kc_P_valueOf :: lw_g) { frames := 0, cells := 0, slots := 0, locals := 0 } (wk_Pc D q cA [.ref (q 1), .int x1, .ref (q 26)] z sz) (va_Qi K (wk_B D q cA (va_A (wW q cA z) sz)) (va_A (wW q cA z) sz)) 0 0 (va_A (wW q cA z) sz) := by
  refine Met.ofW (cc := prog_4_method_10_code) (maxL := 5) (ret := (some .int)) (by decide) rfl ?_
  intro p e s m args below meth c s₁ B hml hv
  obtain ⟨rfl, hsz, hP, hK, hD0⟩ := hv
  have hx := B.exec
  have hb := B.bytes
  have hr := B.returns
  have hlocks := B.notSynchronized
  have hts0 := atoms_spec (ws := kc_P_valueOf :: lw_g) B.pre
  have hts : ∀ w ∈ lw_g, w.before ([.ref (q 1), .int x1, .ref (q 26)] : List Value).toArray s = true := fun w hw => hts0 w (List.mem_cons_of_mem _ hw)
  have hown : s.vm.findClass kr_P = some m.cls := findClass_of_methodNamed B.named
  subst hsz
  have hD := hD0.self (sz := s.heap.size)
  generalize hAe : va_A (wW q cA z) s.heap.size = A at hD ⊢
  have hA : ∀ x : Nat, s.heap.size ≤ x → A x := fun x hx => by rw [← hAe]; exact Or.inr hx
  have hl := lv_entry ([.ref (q 1), .int x1, .ref (q 26)]) (n := 5) (Nat.le_of_ble_eq_true rfl)
  rw [lg_entry_eq]
  generalize (lg_sl ([.ref (q 1), .int x1, .ref (q 26)]) ++ List.replicate (5 - (lg_sl ([.ref (q 1), .int x1, .ref (q 26)])).length) Slot.unset).toArray = ls at hl ⊢
  have hl : lv_has ls 5 [(0, .ref (q 1)), (1, .int x1), (2, .ref (q 26))] := hl
  exact w_P_valueOf_26 hx hb hml hown hts (Nat.le_refl _) (Nat.le_refl _) (Nat.zero_le _) (Nat.zero_le _) hA hK x1 z K h (fun r u H locs pc ls hk hV hd => W.iret hx hb hr (fun t ht hW => ⟨⟨r, u, rfl, hk, by rw [ht]; exact hV.1, va_K.moved hW.alike hK, hV.2.1⟩, hV.2.2.F ht⟩) hV.2.2.2.2 hd) ⟨hP, hD, va_S.rf⟩ hl
section
variable {p : Program} {l : Launch} {e : Env} {R : Room} {s : State} {m : MethodId} {args : Array Value} {below : List Frame} {meth : Method} {c : Code} {Q : State → Prop} {ce sl : Nat} {D : va_G} {q : Nat → Nat} {cA : Nat → ClassId} {A : Nat → Prop}
set_option maxHeartbeats 4000000 in
set_option maxRecDepth 100000 in
theorem w_P_addStatement (hx : p.tables.exec = Jvm.exec) (hb : c.code = prog_4_method_6_code) (hml : c.maxLocals = 6) (hown : s.vm.findClass kr_P = some m.cls) (hts : ∀ w ∈ lw_g, w.before args s = true) (hRf : 0 ≤ R.frames) (hRl : 0 ≤ R.locals) (hce : ce ≤ R.cells) (hsl : sl ≤ R.slots) (hA : ∀ x, s.heap.size ≤ x → A x) (hK : va_K D wk_cl (tysW cA) s) (x1 : Int32) (x2 : Int32) (x3 : Int32) (z : Sta) (K : Int32 → Sta → Prop) (h : wp_P_addStatement x1 x2 x3 z K) (hret : ∀ (r : Int32) (u : Sta) (H : Heap) (locs : List Loc) (pc : Nat) (ls : Array Slot), K r u → wk_S D q cA A s.heap u H locs → decode prog_4_method_6_code pc = .ok (.ireturn, 1) → W p l e R s m args below meth c H locs ce sl Q (F0 m pc ls [.int r])) {H : Heap} {locs : List Loc} {ls : Array Slot} (hV : wk_S D q cA A s.heap z H locs) (hl : lv_has ls 6 [(0, .ref (q 1)), (1, .int x1), (2, .int x2), (3, .int x3)]) : W p l e R s m args below meth c H locs ce sl Q (F0 m 0 ls []) := by
  unfold wp_P_addStatement at h
  refine lv_aload_n hx hb kd_prog_4_method_6_code_0 rfl (lv_at hl 0 rfl) ?_
  refine va_get (D := D) (ci := 1) (v := .int (z.1 2)) (C := kr_P) (T := kt_P) (N := kn_P) hx hb hts ki_P hown hK hV.1 1 rfl rfl 0 (by decide) (hts _ hw_30) (fun _ h9 => h9) rfl kd_prog_4_method_6_code_1 ?_
  refine lv_topi (fun v1 ev1 => ?_)
  have h := h v1 ev1
  refine lv_iconst (v := 1) hx hb kd_prog_4_method_6_code_4 (by decide) ?_
  refine lv_isub hx hb kd_prog_4_method_6_code_5 ?_
  refine lv_topi (fun v2 ev2 => ?_)
  have h := h v2 ev2
  refine lv_istore hx hb kd_prog_4_method_6_code_6 hl (by decide) rfl (fun ls hl => ?_)
  have hl : lv_has ls 6 [(4, .int v2), (0, .ref (q 1)), (1, .int x1), (2, .int x2), (3, .int x3)] := hl
  refine lv_iload hx hb kd_prog_4_method_6_code_8 (lv_at hl 0 rfl) ?_
  refine lv_iconst (v := 5) hx hb kd_prog_4_method_6_code_10 (by decide) ?_
  refine lv_imul hx hb kd_prog_4_method_6_code_11 ?_
  refine lv_topi (fun v3 ev3 => ?_)
  have h := h v3 ev3
  refine lv_aload_n hx hb kd_prog_4_method_6_code_12 rfl (lv_at hl 1 rfl) ?_
  refine va_get (D := D) (ci := 1) (v := .ref (q 5)) (C := kr_P) (T := kt_P) (N := kn_P) hx hb hts ki_P hown hK hV.1 1 rfl rfl 2 (by decide) (hts _ hw_37) (fun _ h9 => h9) rfl kd_prog_4_method_6_code_13 ?_
  refine lv_iload hx hb kd_prog_4_method_6_code_16 (lv_at hl 0 rfl) ?_
  obtain ⟨hin, h⟩ := h
  refine va_iald hx hb hK hV.1 5 0 rfl rfl hin kd_prog_4_method_6_code_18 ?_
  refine lv_topi (fun v4 ev4 => ?_)
  have h := h v4 ev4
  refine lv_iadd hx hb kd_prog_4_method_6_code_19 ?_
  refine lv_topi (fun v5 ev5 => ?_)
  have h := h v5 ev5
  refine lv_istore hx hb kd_prog_4_method_6_code_20 hl (by decide) rfl (fun ls hl => ?_)
  have hl : lv_has ls 6 [(5, .int v5), (4, .int v2), (0, .ref (q 1)), (1, .int x1), (2, .int x2), (3, .int x3)] := hl
  refine lv_aload_n hx hb kd_prog_4_method_6_code_22 rfl (lv_at hl 2 rfl) ?_
  refine va_get (D := D) (ci := 1) (v := .ref (q 6)) (C := kr_P) (T := kt_P) (N := kn_P) hx hb hts ki_P hown hK hV.1 1 rfl rfl 3 (by decide) (hts _ hw_40) (fun _ h9 => h9) rfl kd_prog_4_method_6_code_23 ?_
  refine lv_iload hx hb kd_prog_4_method_6_code_26 (lv_at hl 0 rfl) ?_
  refine lv_iload_n hx hb kd_prog_4_method_6_code_28 rfl (lv_at hl 3 rfl) ?_
  obtain ⟨hin, h⟩ := h
  refine wk_iast hx hb hK hV 6 1 1 rfl rfl (ks_6 q cA z) hin kd_prog_4_method_6_code_29 (fun H locs hV => ?_)
  obtain ⟨z6, ez6⟩ : ∃ x : Sta, x = zA z 1 (upd (z.2.1 1) v5.toNatClampNeg x1) := ⟨_, rfl⟩
  rw [← ez6] at hV
  have h := h z6 ez6
  refine lv_aload_n hx hb kd_prog_4_method_6_code_30 rfl (lv_at hl 2 rfl) ?_
  refine va_get (D := D) (ci := 1) (v := .ref (q 7)) (C := kr_P) (T := kt_P) (N := kn_P) hx hb hts ki_P hown hK hV.1 1 rfl rfl 4 (by decide) (hts _ hw_43) (fun _ h9 => h9) rfl kd_prog_4_method_6_code_31 ?_
  refine lv_iload hx hb kd_prog_4_method_6_code_34 (lv_at hl 0 rfl) ?_
  refine lv_iload_n hx hb kd_prog_4_method_6_code_36 rfl (lv_at hl 4 rfl) ?_
  obtain ⟨hin, h⟩ := h
  refine wk_iast hx hb hK hV 7 2 2 rfl rfl (ks_7 q cA z6) hin kd_prog_4_method_6_code_37 (fun H locs hV => ?_)
  obtain ⟨z7, ez7⟩ : ∃ x : Sta, x = zA z6 2 (upd (z6.2.1 2) v5.toNatClampNeg x2) := ⟨_, rfl⟩
  rw [← ez7] at hV
  have h := h z7 ez7
  refine lv_aload_n hx hb kd_prog_4_method_6_code_38 rfl (lv_at hl 2 rfl) ?_
  refine va_get (D := D) (ci := 1) (v := .ref (q 8)) (C := kr_P) (T := kt_P) (N := kn_P) hx hb hts ki_P hown hK hV.1 1 rfl rfl 5 (by decide) (hts _ hw_46) (fun _ h9 => h9) rfl kd_prog_4_method_6_code_39 ?_
  refine lv_iload hx hb kd_prog_4_method_6_code_42 (lv_at hl 0 rfl) ?_
  refine lv_iload_n hx hb kd_prog_4_method_6_code_44 rfl (lv_at hl 5 rfl) ?_
  obtain ⟨hin, h⟩ := h
  refine wk_iast hx hb hK hV 8 3 3 rfl rfl (ks_8 q cA z7) hin kd_prog_4_method_6_code_45 (fun H locs hV => ?_)
  obtain ⟨z8, ez8⟩ : ∃ x : Sta, x = zA z7 3 (upd (z7.2.1 3) v5.toNatClampNeg x3) := ⟨_, rfl⟩
  rw [← ez8] at hV
  have h := h z8 ez8
  refine lv_aload_n hx hb kd_prog_4_method_6_code_46 rfl (lv_at hl 2 rfl) ?_
  refine va_get (D := D) (ci := 1) (v := .ref (q 5)) (C := kr_P) (T := kt_P) (N := kn_P) hx hb hts ki_P hown hK hV.1 1 rfl rfl 2 (by decide) (hts _ hw_37) (fun _ h9 => h9) rfl kd_prog_4_method_6_code_47 ?_
  refine lv_iload hx hb kd_prog_4_method_6_code_50 (lv_at hl 1 rfl) ?_
  refine lv_dup2_11 hx hb kd_prog_4_method_6_code_52 rfl rfl ?_
  obtain ⟨hin, h⟩ := h
  refine va_iald hx hb hK hV.1 5 0 rfl rfl hin kd_prog_4_method_6_code_53 ?_
  refine lv_topi (fun v9 ev9 => ?_)
  have h := h v9 ev9
  refine lv_iconst (v := 1) hx hb kd_prog_4_method_6_code_54 (by decide) ?_
  refine lv_iadd hx hb kd_prog_4_method_6_code_55 ?_
  refine lv_topi (fun v10 ev10 => ?_)
  have h := h v10 ev10
  obtain ⟨hin, h⟩ := h
  refine wk_iast hx hb hK hV 5 0 0 rfl rfl (ks_5 q cA z8) hin kd_prog_4_method_6_code_56 (fun H locs hV => ?_)
  obtain ⟨z11, ez11⟩ : ∃ x : Sta, x = zA z8 0 (upd (z8.2.1 0) v2.toNatClampNeg v10) := ⟨_, rfl⟩
  rw [← ez11] at hV
  have h := h z11 ez11
  refine lv_aload_n hx hb kd_prog_4_method_6_code_57 rfl (lv_at hl 2 rfl) ?_
  refine va_get (D := D) (ci := 1) (v := .ref (q 5)) (C := kr_P) (T := kt_P) (N := kn_P) hx hb hts ki_P hown hK hV.1 1 rfl rfl 2 (by decide) (hts _ hw_37) (fun _ h9 => h9) rfl kd_prog_4_method_6_code_58 ?_
  refine lv_iload hx hb kd_prog_4_method_6_code_61 (lv_at hl 1 rfl) ?_
  obtain ⟨hin, h⟩ := h
  refine va_iald hx hb hK hV.1 5 0 rfl rfl hin kd_prog_4_method_6_code_63 ?_
  refine lv_topi (fun v12 ev12 => ?_)
  have h := h v12 ev12
  exact hret v12 z11 H locs 64 ls h hV kd_prog_4_method_6_code_64
end
set_option maxHeartbeats 4000000 in
set_option maxRecDepth 100000 in
theorem c_P_addStatement (l : Launch) (D : va_G) (q : Nat → Nat) (cA : Nat → ClassId) (x1 : Int32) (x2 : Int32) (x3 : Int32) (z : Sta) (sz : Nat) (K : Int32 → Sta → Prop) (h : wp_P_addStatement x1 x2 x3 z K) : Met l ke_P_addStatement (kc_P_addStatement :: lw_g) { frames := 0, cells := 0, slots := 0, locals := 0 } (wk_Pc D q cA [.ref (q 1), .int x1, .int x2, .int x3] z sz) (va_Qi K (wk_B D q cA (va_A (wW q cA z) sz)) (va_A (wW q cA z) sz)) 0 0 (va_A (wW q cA z) sz) := by
  refine Met.ofW (cc := prog_4_method_6_code) (maxL := 6) (ret := (some .int)) (by decide) rfl ?_
  intro p e s m args below meth c s₁ B hml hv
  obtain ⟨rfl, hsz, hP, hK, hD0⟩ := hv
  have hx := B.exec
  have hb := B.bytes
  have hr := B.returns
  have hlocks := B.notSynchronized
  have hts0 := atoms_spec (ws := kc_P_addStatement :: lw_g) B.pre
  have hts : ∀ w ∈ lw_g, w.before ([.ref (q 1), .int x1, .int x2, .int x3] : List Value).toArray s = true := fun w hw => hts0 w (List.mem_cons_of_mem _ hw)
  have hown : s.vm.findClass kr_P = some m.cls := findClass_of_methodNamed B.named
  subst hsz
  have hD := hD0.self (sz := s.heap.size)
  generalize hAe : va_A (wW q cA z) s.heap.size = A at hD ⊢
  have hA : ∀ x : Nat, s.heap.size ≤ x → A x := fun x hx => by rw [← hAe]; exact Or.inr hx
  have hl := lv_entry ([.ref (q 1), .int x1, .int x2, .int x3]) (n := 6) (Nat.le_of_ble_eq_true rfl)
  rw [lg_entry_eq]
  generalize (lg_sl ([.ref (q 1), .int x1, .int x2, .int x3]) ++ List.replicate (6 - (lg_sl ([.ref (q 1), .int x1, .int x2, .int x3])).length) Slot.unset).toArray = ls at hl ⊢
  have hl : lv_has ls 6 [(0, .ref (q 1)), (1, .int x1), (2, .int x2), (3, .int x3)] := hl
  exact w_P_addStatement hx hb hml hown hts (Nat.le_refl _) (Nat.le_refl _) (Nat.zero_le _) (Nat.zero_le _) hA hK x1 x2 x3 z K h (fun r u H locs pc ls hk hV hd => W.iret hx hb hr (fun t ht hW => ⟨⟨r, u, rfl, hk, by rw [ht]; exact hV.1, va_K.moved hW.alike hK, hV.2.1⟩, hV.2.2.F ht⟩) hV.2.2.2.2 hd) ⟨hP, hD, va_S.rf⟩ hl
end
