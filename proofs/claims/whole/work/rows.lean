section
-- ===== PART A: goes FIRST, ahead of the names: the tables' words, and 'selects' of the private methods out of them =====
/-- a private method of a class that the tables say can be made, by its rows of tables_1 -/
def lw_okq (q : MethodName × Nat) : Prop := (q.1.cls ≠ "java/lang/invoke/MethodHandle" ∧ q.1.cls ≠ "java/lang/invoke/VarHandle") ∧ Cond.instantiable q.1.cls q.2 ∈ tables_1 ∧ Cond.privateMethod q.1 ∈ tables_1 ∧ Cond.instanceMethod q.1 ∈ tables_1
theorem lw_p0 : lw_okq (⟨"java/lang/Throwable", "fillInStackTrace", "(I)Ljava/lang/Throwable;"⟩, 6) := ⟨⟨by decide +kernel, by decide +kernel⟩, List.mem_of_getElem? (i := 206) (by decide +kernel), List.mem_of_getElem? (i := 204) (by decide +kernel), List.mem_of_getElem? (i := 205) (by decide +kernel)⟩
theorem lw_p1 : lw_okq (⟨"ReversalDesk", "drawSlots", "(II)V"⟩, 10) := ⟨⟨by decide +kernel, by decide +kernel⟩, List.mem_of_getElem? (i := 17) (by decide +kernel), List.mem_of_getElem? (i := 326) (by decide +kernel), List.mem_of_getElem? (i := 327) (by decide +kernel)⟩
theorem lw_p2 : lw_okq (⟨"ReversalDesk", "relate", "([I[I)V"⟩, 10) := ⟨⟨by decide +kernel, by decide +kernel⟩, List.mem_of_getElem? (i := 17) (by decide +kernel), List.mem_of_getElem? (i := 330) (by decide +kernel), List.mem_of_getElem? (i := 331) (by decide +kernel)⟩
theorem lw_p3 : lw_okq (⟨"ReversalDesk$Drawing", "putEnd", "(II)V"⟩, 11) := ⟨⟨by decide +kernel, by decide +kernel⟩, List.mem_of_getElem? (i := 64) (by decide +kernel), List.mem_of_getElem? (i := 341) (by decide +kernel), List.mem_of_getElem? (i := 342) (by decide +kernel)⟩
theorem lw_p4 : lw_okq (⟨"ReversalDesk$Drawing", "joinParts", "()V"⟩, 11) := ⟨⟨by decide +kernel, by decide +kernel⟩, List.mem_of_getElem? (i := 64) (by decide +kernel), List.mem_of_getElem? (i := 351) (by decide +kernel), List.mem_of_getElem? (i := 352) (by decide +kernel)⟩
theorem lw_p5 : lw_okq (⟨"ReversalDesk$Drawing", "isCrossing", "(II)Z"⟩, 11) := ⟨⟨by decide +kernel, by decide +kernel⟩, List.mem_of_getElem? (i := 64) (by decide +kernel), List.mem_of_getElem? (i := 355) (by decide +kernel), List.mem_of_getElem? (i := 356) (by decide +kernel)⟩
theorem lw_p6 : lw_okq (⟨"ReversalDesk$Drawing", "isWithin", "(II)Z"⟩, 11) := ⟨⟨by decide +kernel, by decide +kernel⟩, List.mem_of_getElem? (i := 64) (by decide +kernel), List.mem_of_getElem? (i := 359) (by decide +kernel), List.mem_of_getElem? (i := 360) (by decide +kernel)⟩
theorem lw_p7 : lw_okq (⟨"ReversalDesk$Drawing", "unite", "(II)V"⟩, 11) := ⟨⟨by decide +kernel, by decide +kernel⟩, List.mem_of_getElem? (i := 64) (by decide +kernel), List.mem_of_getElem? (i := 363) (by decide +kernel), List.mem_of_getElem? (i := 364) (by decide +kernel)⟩
theorem lw_p8 : lw_okq (⟨"ReversalDesk$Drawing", "markBadParts", "()V"⟩, 11) := ⟨⟨by decide +kernel, by decide +kernel⟩, List.mem_of_getElem? (i := 64) (by decide +kernel), List.mem_of_getElem? (i := 367) (by decide +kernel), List.mem_of_getElem? (i := 368) (by decide +kernel)⟩
theorem lw_p9 : lw_okq (⟨"ReversalDesk$Drawing", "isShort", "(I)Z"⟩, 11) := ⟨⟨by decide +kernel, by decide +kernel⟩, List.mem_of_getElem? (i := 64) (by decide +kernel), List.mem_of_getElem? (i := 371) (by decide +kernel), List.mem_of_getElem? (i := 372) (by decide +kernel)⟩
theorem lw_p10 : lw_okq (⟨"ReversalDesk$Drawing", "isOriented", "(I)Z"⟩, 11) := ⟨⟨by decide +kernel, by decide +kernel⟩, List.mem_of_getElem? (i := 64) (by decide +kernel), List.mem_of_getElem? (i := 375) (by decide +kernel), List.mem_of_getElem? (i := 376) (by decide +kernel)⟩
theorem lw_p11 : lw_okq (⟨"ReversalDesk$Drawing", "walkCycle", "(I)V"⟩, 11) := ⟨⟨by decide +kernel, by decide +kernel⟩, List.mem_of_getElem? (i := 64) (by decide +kernel), List.mem_of_getElem? (i := 387) (by decide +kernel), List.mem_of_getElem? (i := 388) (by decide +kernel)⟩
theorem lw_p12 : lw_okq (⟨"ReversalDesk$Drawing", "writeBadAround", "()I"⟩, 11) := ⟨⟨by decide +kernel, by decide +kernel⟩, List.mem_of_getElem? (i := 64) (by decide +kernel), List.mem_of_getElem? (i := 395) (by decide +kernel), List.mem_of_getElem? (i := 396) (by decide +kernel)⟩
theorem lw_p13 : lw_okq (⟨"ReversalDesk$Drawing", "countRunEnds", "(II)I"⟩, 11) := ⟨⟨by decide +kernel, by decide +kernel⟩, List.mem_of_getElem? (i := 64) (by decide +kernel), List.mem_of_getElem? (i := 399) (by decide +kernel), List.mem_of_getElem? (i := 400) (by decide +kernel)⟩
theorem lw_p14 : lw_okq (⟨"ReversalDesk", "turnNearer", "(I)I"⟩, 10) := ⟨⟨by decide +kernel, by decide +kernel⟩, List.mem_of_getElem? (i := 17) (by decide +kernel), List.mem_of_getElem? (i := 453) (by decide +kernel), List.mem_of_getElem? (i := 454) (by decide +kernel)⟩
theorem lw_p15 : lw_okq (⟨"ReversalDesk", "chartNow", "()LReversalDesk$Chart;"⟩, 10) := ⟨⟨by decide +kernel, by decide +kernel⟩, List.mem_of_getElem? (i := 17) (by decide +kernel), List.mem_of_getElem? (i := 491) (by decide +kernel), List.mem_of_getElem? (i := 492) (by decide +kernel)⟩
def lw_privs_1 : List (MethodName × Nat) := [(⟨"java/lang/Throwable", "fillInStackTrace", "(I)Ljava/lang/Throwable;"⟩, 6), (⟨"ReversalDesk", "drawSlots", "(II)V"⟩, 10), (⟨"ReversalDesk", "relate", "([I[I)V"⟩, 10), (⟨"ReversalDesk$Drawing", "putEnd", "(II)V"⟩, 11), (⟨"ReversalDesk$Drawing", "joinParts", "()V"⟩, 11), (⟨"ReversalDesk$Drawing", "isCrossing", "(II)Z"⟩, 11), (⟨"ReversalDesk$Drawing", "isWithin", "(II)Z"⟩, 11), (⟨"ReversalDesk$Drawing", "unite", "(II)V"⟩, 11), (⟨"ReversalDesk$Drawing", "markBadParts", "()V"⟩, 11), (⟨"ReversalDesk$Drawing", "isShort", "(I)Z"⟩, 11), (⟨"ReversalDesk$Drawing", "isOriented", "(I)Z"⟩, 11), (⟨"ReversalDesk$Drawing", "walkCycle", "(I)V"⟩, 11), (⟨"ReversalDesk$Drawing", "writeBadAround", "()I"⟩, 11), (⟨"ReversalDesk$Drawing", "countRunEnds", "(II)I"⟩, 11), (⟨"ReversalDesk", "turnNearer", "(I)I"⟩, 10), (⟨"ReversalDesk", "chartNow", "()LReversalDesk$Chart;"⟩, 10)]
theorem lw_r1 : ∀ q ∈ lw_privs_1, lw_okq q := List.forall_mem_cons.mpr ⟨lw_p0, List.forall_mem_cons.mpr ⟨lw_p1, List.forall_mem_cons.mpr ⟨lw_p2, List.forall_mem_cons.mpr ⟨lw_p3, List.forall_mem_cons.mpr ⟨lw_p4, List.forall_mem_cons.mpr ⟨lw_p5, List.forall_mem_cons.mpr ⟨lw_p6, List.forall_mem_cons.mpr ⟨lw_p7, List.forall_mem_cons.mpr ⟨lw_p8, List.forall_mem_cons.mpr ⟨lw_p9, List.forall_mem_cons.mpr ⟨lw_p10, List.forall_mem_cons.mpr ⟨lw_p11, List.forall_mem_cons.mpr ⟨lw_p12, List.forall_mem_cons.mpr ⟨lw_p13, List.forall_mem_cons.mpr ⟨lw_p14, List.forall_mem_cons.mpr ⟨lw_p15, fun _ h => absurd h List.not_mem_nil⟩⟩⟩⟩⟩⟩⟩⟩⟩⟩⟩⟩⟩⟩⟩⟩
theorem lw_p16 : lw_okq (⟨"ReversalDesk$Chart", "makeRoom", "([II)V"⟩, 5) := ⟨⟨by decide +kernel, by decide +kernel⟩, List.mem_of_getElem? (i := 510) (by decide +kernel), List.mem_of_getElem? (i := 543) (by decide +kernel), List.mem_of_getElem? (i := 544) (by decide +kernel)⟩
theorem lw_p17 : lw_okq (⟨"ReversalDesk$Chart", "waysOfWalked", "(II)J"⟩, 5) := ⟨⟨by decide +kernel, by decide +kernel⟩, List.mem_of_getElem? (i := 510) (by decide +kernel), List.mem_of_getElem? (i := 559) (by decide +kernel), List.mem_of_getElem? (i := 560) (by decide +kernel)⟩
theorem lw_p18 : lw_okq (⟨"ReversalDesk", "triedTo", "(ILReversalDesk$Chart;)I"⟩, 10) := ⟨⟨by decide +kernel, by decide +kernel⟩, List.mem_of_getElem? (i := 17) (by decide +kernel), List.mem_of_getElem? (i := 584) (by decide +kernel), List.mem_of_getElem? (i := 585) (by decide +kernel)⟩
theorem lw_p19 : lw_okq (⟨"ReversalDeskModel", "clear", "()V"⟩, 25) := ⟨⟨by decide +kernel, by decide +kernel⟩, List.mem_of_getElem? (i := 589) (by decide +kernel), List.mem_of_getElem? (i := 597) (by decide +kernel), List.mem_of_getElem? (i := 598) (by decide +kernel)⟩
theorem lw_p20 : lw_okq (⟨"ReversalDeskModel", "distanceOf", "([II[II)I"⟩, 25) := ⟨⟨by decide +kernel, by decide +kernel⟩, List.mem_of_getElem? (i := 589) (by decide +kernel), List.mem_of_getElem? (i := 724) (by decide +kernel), List.mem_of_getElem? (i := 725) (by decide +kernel)⟩
theorem lw_p21 : lw_okq (⟨"ReversalDeskModel", "makeTable", "()V"⟩, 25) := ⟨⟨by decide +kernel, by decide +kernel⟩, List.mem_of_getElem? (i := 589) (by decide +kernel), List.mem_of_getElem? (i := 728) (by decide +kernel), List.mem_of_getElem? (i := 729) (by decide +kernel)⟩
theorem lw_p22 : lw_okq (⟨"ReversalDeskModel", "orderCount", "()I"⟩, 25) := ⟨⟨by decide +kernel, by decide +kernel⟩, List.mem_of_getElem? (i := 589) (by decide +kernel), List.mem_of_getElem? (i := 732) (by decide +kernel), List.mem_of_getElem? (i := 733) (by decide +kernel)⟩
theorem lw_p23 : lw_okq (⟨"ReversalDeskModel", "spread", "(I)V"⟩, 25) := ⟨⟨by decide +kernel, by decide +kernel⟩, List.mem_of_getElem? (i := 589) (by decide +kernel), List.mem_of_getElem? (i := 736) (by decide +kernel), List.mem_of_getElem? (i := 737) (by decide +kernel)⟩
theorem lw_p24 : lw_okq (⟨"ReversalDeskModel", "unrank", "(I[I)V"⟩, 25) := ⟨⟨by decide +kernel, by decide +kernel⟩, List.mem_of_getElem? (i := 589) (by decide +kernel), List.mem_of_getElem? (i := 740) (by decide +kernel), List.mem_of_getElem? (i := 741) (by decide +kernel)⟩
theorem lw_p25 : lw_okq (⟨"ReversalDeskModel", "rankOf", "([I)I"⟩, 25) := ⟨⟨by decide +kernel, by decide +kernel⟩, List.mem_of_getElem? (i := 589) (by decide +kernel), List.mem_of_getElem? (i := 744) (by decide +kernel), List.mem_of_getElem? (i := 745) (by decide +kernel)⟩
theorem lw_p26 : lw_okq (⟨"ReversalDeskModel", "relate", "([II[II)V"⟩, 25) := ⟨⟨by decide +kernel, by decide +kernel⟩, List.mem_of_getElem? (i := 589) (by decide +kernel), List.mem_of_getElem? (i := 748) (by decide +kernel), List.mem_of_getElem? (i := 749) (by decide +kernel)⟩
theorem lw_p27 : lw_okq (⟨"ReversalDeskModel", "draw", "(II)V"⟩, 25) := ⟨⟨by decide +kernel, by decide +kernel⟩, List.mem_of_getElem? (i := 589) (by decide +kernel), List.mem_of_getElem? (i := 756) (by decide +kernel), List.mem_of_getElem? (i := 757) (by decide +kernel)⟩
theorem lw_p28 : lw_okq (⟨"ReversalDeskModel", "findParts", "()I"⟩, 25) := ⟨⟨by decide +kernel, by decide +kernel⟩, List.mem_of_getElem? (i := 589) (by decide +kernel), List.mem_of_getElem? (i := 760) (by decide +kernel), List.mem_of_getElem? (i := 761) (by decide +kernel)⟩
theorem lw_p29 : lw_okq (⟨"ReversalDeskModel", "isBetween", "(II)Z"⟩, 25) := ⟨⟨by decide +kernel, by decide +kernel⟩, List.mem_of_getElem? (i := 589) (by decide +kernel), List.mem_of_getElem? (i := 764) (by decide +kernel), List.mem_of_getElem? (i := 765) (by decide +kernel)⟩
theorem lw_p30 : lw_okq (⟨"ReversalDeskModel", "low", "(I)I"⟩, 25) := ⟨⟨by decide +kernel, by decide +kernel⟩, List.mem_of_getElem? (i := 589) (by decide +kernel), List.mem_of_getElem? (i := 768) (by decide +kernel), List.mem_of_getElem? (i := 769) (by decide +kernel)⟩
theorem lw_p31 : lw_okq (⟨"ReversalDeskModel", "high", "(I)I"⟩, 25) := ⟨⟨by decide +kernel, by decide +kernel⟩, List.mem_of_getElem? (i := 589) (by decide +kernel), List.mem_of_getElem? (i := 772) (by decide +kernel), List.mem_of_getElem? (i := 773) (by decide +kernel)⟩
def lw_privs_2 : List (MethodName × Nat) := [(⟨"ReversalDesk$Chart", "makeRoom", "([II)V"⟩, 5), (⟨"ReversalDesk$Chart", "waysOfWalked", "(II)J"⟩, 5), (⟨"ReversalDesk", "triedTo", "(ILReversalDesk$Chart;)I"⟩, 10), (⟨"ReversalDeskModel", "clear", "()V"⟩, 25), (⟨"ReversalDeskModel", "distanceOf", "([II[II)I"⟩, 25), (⟨"ReversalDeskModel", "makeTable", "()V"⟩, 25), (⟨"ReversalDeskModel", "orderCount", "()I"⟩, 25), (⟨"ReversalDeskModel", "spread", "(I)V"⟩, 25), (⟨"ReversalDeskModel", "unrank", "(I[I)V"⟩, 25), (⟨"ReversalDeskModel", "rankOf", "([I)I"⟩, 25), (⟨"ReversalDeskModel", "relate", "([II[II)V"⟩, 25), (⟨"ReversalDeskModel", "draw", "(II)V"⟩, 25), (⟨"ReversalDeskModel", "findParts", "()I"⟩, 25), (⟨"ReversalDeskModel", "isBetween", "(II)Z"⟩, 25), (⟨"ReversalDeskModel", "low", "(I)I"⟩, 25), (⟨"ReversalDeskModel", "high", "(I)I"⟩, 25)]
theorem lw_r2 : ∀ q ∈ lw_privs_2, lw_okq q := List.forall_mem_cons.mpr ⟨lw_p16, List.forall_mem_cons.mpr ⟨lw_p17, List.forall_mem_cons.mpr ⟨lw_p18, List.forall_mem_cons.mpr ⟨lw_p19, List.forall_mem_cons.mpr ⟨lw_p20, List.forall_mem_cons.mpr ⟨lw_p21, List.forall_mem_cons.mpr ⟨lw_p22, List.forall_mem_cons.mpr ⟨lw_p23, List.forall_mem_cons.mpr ⟨lw_p24, List.forall_mem_cons.mpr ⟨lw_p25, List.forall_mem_cons.mpr ⟨lw_p26, List.forall_mem_cons.mpr ⟨lw_p27, List.forall_mem_cons.mpr ⟨lw_p28, List.forall_mem_cons.mpr ⟨lw_p29, List.forall_mem_cons.mpr ⟨lw_p30, List.forall_mem_cons.mpr ⟨lw_p31, fun _ h => absurd h List.not_mem_nil⟩⟩⟩⟩⟩⟩⟩⟩⟩⟩⟩⟩⟩⟩⟩⟩
theorem lw_p32 : lw_okq (⟨"ReversalDeskModel", "isOriented", "(I)Z"⟩, 25) := ⟨⟨by decide +kernel, by decide +kernel⟩, List.mem_of_getElem? (i := 589) (by decide +kernel), List.mem_of_getElem? (i := 776) (by decide +kernel), List.mem_of_getElem? (i := 777) (by decide +kernel)⟩
theorem lw_p33 : lw_okq (⟨"ReversalDeskModel", "cycles", "()I"⟩, 25) := ⟨⟨by decide +kernel, by decide +kernel⟩, List.mem_of_getElem? (i := 589) (by decide +kernel), List.mem_of_getElem? (i := 780) (by decide +kernel), List.mem_of_getElem? (i := 781) (by decide +kernel)⟩
theorem lw_p34 : lw_okq (⟨"ReversalDeskModel", "hurdles", "()I"⟩, 25) := ⟨⟨by decide +kernel, by decide +kernel⟩, List.mem_of_getElem? (i := 589) (by decide +kernel), List.mem_of_getElem? (i := 784) (by decide +kernel), List.mem_of_getElem? (i := 785) (by decide +kernel)⟩
theorem lw_p35 : lw_okq (⟨"ReversalDeskModel", "breakpoints", "()I"⟩, 25) := ⟨⟨by decide +kernel, by decide +kernel⟩, List.mem_of_getElem? (i := 589) (by decide +kernel), List.mem_of_getElem? (i := 788) (by decide +kernel), List.mem_of_getElem? (i := 789) (by decide +kernel)⟩
def lw_privs_3 : List (MethodName × Nat) := [(⟨"ReversalDeskModel", "isOriented", "(I)Z"⟩, 25), (⟨"ReversalDeskModel", "cycles", "()I"⟩, 25), (⟨"ReversalDeskModel", "hurdles", "()I"⟩, 25), (⟨"ReversalDeskModel", "breakpoints", "()I"⟩, 25)]
theorem lw_r3 : ∀ q ∈ lw_privs_3, lw_okq q := List.forall_mem_cons.mpr ⟨lw_p32, List.forall_mem_cons.mpr ⟨lw_p33, List.forall_mem_cons.mpr ⟨lw_p34, List.forall_mem_cons.mpr ⟨lw_p35, fun _ h => absurd h List.not_mem_nil⟩⟩⟩⟩
def lw_privs : List (MethodName × Nat) := lw_privs_1 ++ (lw_privs_2 ++ (lw_privs_3))
def lw_tbl : List Cond := k2_sels lw_privs ++ tables_1
theorem lw_privs_ok : ∀ q ∈ lw_privs, lw_okq q := by
  show ∀ q ∈ lw_privs_1 ++ (lw_privs_2 ++ (lw_privs_3)), lw_okq q
  exact List.forall_mem_append.mpr ⟨lw_r1, List.forall_mem_append.mpr ⟨lw_r2, lw_r3⟩⟩
end
section
/-! ===== BEGIN words of one list among another's, by their places ===== -/
theorem goodIn_r {big : List Cond} (ws : List Cond) (ps : List Nat) (hp : ws = ps.filterMap (fun i => big[i]?)) (h : ws.all goodWord = true) : GoodIn big ws := by
  intro w hw
  have h1 := List.all_eq_true.mp h w hw
  rw [hp] at hw
  obtain ⟨i, -, hi⟩ := List.mem_filterMap.mp hw
  have hm : w ∈ big := by first | exact List.mem_of_getElem? hi | exact List.getElem?_mem hi
  exact ⟨hm, good_of_word h1⟩
theorem goodIn_app {big a b : List Cond} (ha : GoodIn big a) (hb : GoodIn big b) : GoodIn big (a ++ b) := fun w h => (List.mem_append.mp h).elim (ha w) (hb w)
theorem goodIn_ca {big a b : List Cond} {c : Cond} (ha : GoodIn big (c :: a)) (hb : GoodIn big b) : GoodIn big (c :: (a ++ b)) := fun w h => (List.mem_cons.mp h).elim (fun e => ha w (List.mem_cons.mpr (Or.inl e))) (fun h => (List.mem_append.mp h).elim (fun h => ha w (List.mem_cons.mpr (Or.inr h))) (hb w))
theorem goodIn_sub {big ws : List Cond} (hm : ∀ w ∈ ws, w ∈ big) (h : ws.all goodWord = true) : GoodIn big ws := fun w hw => ⟨hm w hw, good_of_word (List.all_eq_true.mp h w hw)⟩
/-! ===== END ===== -/

/-! ===== BEGIN exceptions that leave a method, and their catching by the caller (launches without stack traces) ===== -/
section VXA
/-! The laws vx_back, vx_callV, vx_callS, vx_callSW, vx_throw0, vx_throwS follow proofs of the library, with one case more: JvmDerived/Free/Laws.lean (Back.of_free), Shelf42/LK1.lean (callV, callS), Shelf/KitTraced.lean (throwNew0V, throwNewS). -/
/-- where a method has thrown q: the class by its name, the cell, what was written, the world -/
def vx_T (XC : String → State → State → Prop) (st : State) (q : Addr) (t : State) (mc ms : Nat) (free : Addr → Prop) : Prop :=
  ∃ (E : String) (ce : Cell) (L : List Loc), XC E st t ∧ t.heap[q]? = some ce ∧ ce.vm = .none ∧ st.vm.findClass E = some ce.cls ∧ st.WarmedH t.vm ∧ st.sameButNew ({ t with vm := st.vm } : State) L mc ms ∧ ∀ z ∈ L, free z.base
def vx_Q (Qc : Array Value → State → Outcome → State → Prop) (XC : String → State → State → Prop) (mc ms : Nat) (free : Addr → Prop) : Array Value → State → Outcome → State → Prop := fun a st o t =>
  (Qc a st o t ∧ ∃ L, FrameEnd st o t L mc ms ∧ ∀ q ∈ L, free q.base) ∨ ∃ q, o = .threw q ∧ vx_T XC st q t mc ms free
/-- a callee that returns or throws -/
def vx_Met (l : Launch) (y : MethodName) (ws : List Cond) (rm : Room) (Pc : Array Value → State → Prop) (Qc : Array Value → State → Outcome → State → Prop) (XC : String → State → State → Prop) (mc ms : Nat) (free : Addr → Prop) : Prop :=
  MetFree l y (headSpec ws rm) Pc (fun _ _ _ _ _ => True) (vx_Q Qc XC mc ms free)
def vx_Post (XC : String → State → State → Prop) (mc ms : Nat) (free : Addr → Prop) : Pt → Array Value → Addr → Pt → Prop := fun A a q B =>
  ∃ (g : JFrame) (mk : MethodId) (t : State) (L : List Loc) (E : String) (ce : Cell), B.U.heap = t.heap ∧ B.U.vm = t.vm ∧ XC E (A.U.calling g mk a) t ∧ t.heap[q]? = some ce ∧ ce.vm = .none ∧ A.U.vm.findClass E = some ce.cls ∧ B.locs = A.locs ++ L ∧ (∀ z ∈ L, free z.base) ∧ B.cells = A.cells + mc ∧ B.slots = A.slots + ms
def vx_Back (l : Launch) (R : Room) (p : Program) (e : Env) (below : List Frame) (s : State) (sargs : Array Value) (y : MethodName) (len W9 : Nat)
    (Pre : Pt → Array Value → Prop) (Post : Pt → Array Value → Option Value → Pt → Prop) (PostX : Pt → Array Value → Addr → Pt → Prop) : Prop :=
  ∀ (m : MethodId) (meth : Method) (c : Code) (A : Pt) (g : JFrame) (ig : Instr) (mk : MethodId) (a : Array Value),
    Stand p l e R s m sargs below meth c A.U A.locs A.cells A.slots → g.method = m → g.locals.size = c.maxLocals → decode c.code g.pc = .ok (ig, len) →
    2 * g.monitorRoom + (g.stack.map fun v => v.category).sum ≤ W9 → A.U.methodNamed? y = some mk → Pre A a →
    (∃ (v : Option Value) (B : Pt), Stand p l e R s m sargs below meth c B.U B.locs B.cells B.slots ∧ Post A a v B ∧
      Steps p.tables e below (doInvoke e (A.U.setTop g) [] mk a).1 (B.U.setTop { g with pc := g.pc + len, stack := v.toList ++ g.stack })) ∨
    (∃ (q : Addr) (B : Pt), Stand p l e R s m sargs below meth c B.U B.locs B.cells B.slots ∧ PostX A a q B ∧
      Steps p.tables e below (doInvoke e (A.U.setTop g) [] mk a).1 ((B.U.setTop g).pushFrame (.throwing q)))
section Payer
variable {l : Launch} {R : Room} {p : Program} {e : Env} {below : List Frame} {s : State} {sargs : Array Value} {y : MethodName} {len W9 : Nat}
theorem vx_back {ws : List Cond} {rm : Room} {Pc : Array Value → State → Prop} {Qc : Array Value → State → Outcome → State → Prop} {XC : String → State → State → Prop} {mc ms : Nat} {free : Addr → Prop} {bytes : ByteArray} {maxL : Nat} {ret : Option FieldType}
    (hM : vx_Met l y ws rm Pc Qc XC mc ms free) (hblind : FrameBlind Pc) (hrc : rm.cells = mc) (hrs : rm.slots = ms)
    (hframes : rm.frames + 1 ≤ R.frames) (hlocals : W9 + (maxL + 11) + rm.locals ≤ R.locals)
    (hws : ∀ w ∈ ws, ∀ a' U, s.WarmedH U.vm → w.before a' U = true) (hcode : Cond.code y bytes maxL ret ∈ ws) (hinit : ∀ a' U, s.WarmedH U.vm → (Cond.initialized y.cls).before a' U = true) :
    vx_Back l R p e below s sargs y len W9 (PreOf R mc ms Pc) (PostOf Qc mc ms free) (vx_Post XC mc ms free) := by
  intro m meth c A g ig mk a X hg hsize hdg hW hn hp
  have h1 : (headSpec ws rm).pre.before a A.U = true := atoms_intro fun w hw => hws w hw _ _ X.warmed
  have h2 : (Cond.code y bytes maxL ret).before a A.U = true := hws _ hcode _ _ X.warmed
  have h3 : (Cond.initialized y.cls).before a A.U = true := hinit _ _ X.warmed
  have h4 : A.cells + (headSpec ws rm).room.cells ≤ R.cells := by rw [show (headSpec ws rm).room.cells = mc from hrc]; exact hp.1
  have h5 : A.slots + (headSpec ws rm).room.slots ≤ R.slots := by rw [show (headSpec ws rm).room.slots = ms from hrs]; exact hp.2.1
  have hPc : Pc a (A.U.calling g mk a) := hblind _ _ _ _ hp.2.2
  obtain ⟨U, Ls, c0, s0⟩ := A
  dsimp only [Pt.U, Pt.locs, Pt.cells, Pt.slots] at h1 h2 h3 h4 h5 X hn hPc ⊢
  obtain ⟨methY, cY, hmY, hcY, -, hlY, -, -, -, -⟩ := Cond.code_spec hn h2
  obtain ⟨kY, hkY, -⟩ := className_of_methodNamed hn
  have hinitY : kY.init = .initialized := Cond.initialized_spec (findClass_of_methodNamed hn) hkY h3
  have h : At U g.method c below := by rw [hg]; exact X.here
  have hlocals9 : W9 + (maxL + 11) + (headSpec ws rm).room.locals ≤ R.locals := hlocals
  have happ : (headSpec ws rm).appliesLoose y e.platform (U.calling g mk a) = true :=
    Spec.appliesLoose_calling (g := g) h hdg hn hkY hinitY
      (X.room_calling (g := g) (R' := (headSpec ws rm).room) hsize hmY hcY hframes (by rw [hlY]; omega) h4 h5) h1
  obtain ⟨mid, hmid⟩ := h.above
  have hfr : (U.setTop g).frames = (.java g :: mid) ++ below := by rw [State.frames_setTop' g h.top, hmid]; rfl
  obtain ⟨o, s₂, hsteps, -, hend, hq⟩ := Steps.callFree hM p X.admits X.cas X.clock (acts := []) hfr happ hPc trivial
  have hq' : vx_Q Qc XC mc ms free a (U.calling g mk a) o s₂ := hq
  rw [State.frames_setTop' g h.top] at hend
  obtain ⟨g₀, hg0⟩ := Option.isSome_iff_exists.mp h.top
  obtain ⟨r, hr⟩ := State.topJava?_eq_some.mp hg0
  have hr' : (({ U with heap := s₂.heap, slotsUsed := s₂.slotsUsed } : State).setVm s₂.vm).frames = .java g₀ :: r := hr
  rcases hq' with ⟨hqc, L, hfe, hL⟩ | ⟨q, rfl, E, ce, L, hx, hce, hcv, hcl, hW₂, hsm, hL⟩
  · obtain ⟨⟨v, rfl⟩, hW₂, e2, q2, q3, q4, q5, q6⟩ := id hfe
    have e3 : s₂ = ({ (U.calling g mk a).setFrames s₂.frames with heap := s₂.heap, slotsUsed := s₂.slotsUsed } : State).setVm s₂.vm := by
      have : s₂ = ({ s₂ with vm := (U.calling g mk a).vm } : State).setVm s₂.vm := rfl
      rw [e2] at this
      exact this
    obtain ⟨c₂, i₂, len₂, hc₂, hd₂, hf₂⟩ := hend
    have hW' : U.WarmedH s₂.vm := hW₂
    have hcc : c₂ = c := by
      have h1 : s₂.code? g.method = U.code? g.method := by
        rw [State.code?_eq, State.code?_eq, hW'.alike.method?]
      exact Option.some.inj (hc₂.symm.trans (h1.trans h.code))
    subst hcc
    have hlen : len₂ = len := by rw [hdg] at hd₂; cases hd₂; rfl
    subst hlen
    have hs₂ : s₂ = (({ U with heap := s₂.heap, slotsUsed := s₂.slotsUsed } : State).setVm s₂.vm).setTop { g with pc := g.pc + len₂, stack := v.toList ++ g.stack } := by
      refine e3.trans ?_
      rw [hf₂, State.calling_eq h.top, State.setFrames_setFrames, State.setTop_of_frames _ hr', hr]
      rfl
    have hsame : U.sameButNew ({ U with heap := s₂.heap, slotsUsed := s₂.slotsUsed } : State) L mc ms := by
      refine ⟨?_, q2, q3, q4, q5, q6⟩
      obtain ⟨t, ht, -⟩ := State.frames_cons hr
      show ({ U with heap := s₂.heap, slotsUsed := s₂.slotsUsed } : State) = { U.setFrames U.frames with heap := s₂.heap, slotsUsed := s₂.slotsUsed }
      rw [State.setFrames_self ht]
    subst hg
    refine Or.inl ⟨v, ⟨(({ U with heap := s₂.heap, slotsUsed := s₂.slotsUsed } : State).setVm s₂.vm), Ls ++ L, c0 + mc, s0 + ms⟩,
      ⟨X.admits, X.cas, X.clock, X.frames, X.room, X.hears, X.method, X.code, (X.here.setHeapUsed s₂.heap s₂.slotsUsed).setVm hW'.alike, X.tail, State.WarmedH.trans X.warmed hW', X.limits, X.bytes, X.same.trans (hsame.setVm s.vm)⟩,
      ⟨g, mk, s₂, L, rfl, rfl, hqc, rfl, hL, rfl, rfl⟩, ?_⟩
    show Steps p.tables e below _ ((({ U with heap := s₂.heap, slotsUsed := s₂.slotsUsed } : State).setVm s₂.vm).setTop { g with pc := g.pc + len₂, stack := v.toList ++ g.stack })
    rw [← hs₂]
    exact hsteps
  · obtain ⟨e2, q2, q3, q4, q5, q6⟩ := id hsm
    have e3 : s₂ = ({ (U.calling g mk a).setFrames s₂.frames with heap := s₂.heap, slotsUsed := s₂.slotsUsed } : State).setVm s₂.vm := by
      have : s₂ = ({ s₂ with vm := (U.calling g mk a).vm } : State).setVm s₂.vm := rfl
      rw [e2] at this
      exact this
    have hf₂ : s₂.frames = .throwing q :: .java g :: U.frames.tail := hend
    have hW' : U.WarmedH s₂.vm := hW₂
    have hs₂ : s₂ = ((({ U with heap := s₂.heap, slotsUsed := s₂.slotsUsed } : State).setVm s₂.vm).setTop g).pushFrame (.throwing q) := by
      refine e3.trans ?_
      rw [hf₂, State.calling_eq h.top, State.setFrames_setFrames, State.pushFrame, State.frames_setTop _ hr', State.setTop_of_frames _ hr', State.setFrames_setFrames, hr]
      rfl
    have hsame : U.sameButNew ({ U with heap := s₂.heap, slotsUsed := s₂.slotsUsed } : State) L mc ms := by
      refine ⟨?_, q2, q3, q4, q5, q6⟩
      obtain ⟨t, ht, -⟩ := State.frames_cons hr
      show ({ U with heap := s₂.heap, slotsUsed := s₂.slotsUsed } : State) = { U.setFrames U.frames with heap := s₂.heap, slotsUsed := s₂.slotsUsed }
      rw [State.setFrames_self ht]
    subst hg
    refine Or.inr ⟨q, ⟨(({ U with heap := s₂.heap, slotsUsed := s₂.slotsUsed } : State).setVm s₂.vm), Ls ++ L, c0 + mc, s0 + ms⟩,
      ⟨X.admits, X.cas, X.clock, X.frames, X.room, X.hears, X.method, X.code, (X.here.setHeapUsed s₂.heap s₂.slotsUsed).setVm hW'.alike, X.tail, State.WarmedH.trans X.warmed hW', X.limits, X.bytes, X.same.trans (hsame.setVm s.vm)⟩,
      ⟨g, mk, s₂, L, E, ce, rfl, rfl, hx, hce, hcv, hcl, rfl, hL, rfl, rfl⟩, ?_⟩
    show Steps p.tables e below _ (((({ U with heap := s₂.heap, slotsUsed := s₂.slotsUsed } : State).setVm s₂.vm).setTop g).pushFrame (.throwing q))
    rw [← hs₂]
    exact hsteps
end Payer
section Calls
variable {p : Program} {l : Launch} {e : Env} {R : Room} {s : State} {m : MethodId} {args : Array Value} {below : List Frame} {meth : Method} {c : Code} {T : State} {locs : List Loc} {cells slots : Nat}
theorem vx_callV (X : Stand p l e R s m args below meth c T locs cells slots) (hexec : p.tables.exec = Jvm.exec) {own C : String} {index : Nat} {y : MethodName} {bytes : ByteArray} {maxL : Nat} {ret : Option FieldType}
    (hown : s.vm.findClass own = some m.cls) (hlink : (Cond.methodLink own index y).before args s = true) (hinst : (Cond.instanceMethod y).before args s = true) (hsel : (Cond.selects C y y).before args s = true)
    (hcode : (Cond.code y bytes maxL ret).before args s = true) (hy : y.cls ≠ "java/lang/invoke/MethodHandle" ∧ y.cls ≠ "java/lang/invoke/VarHandle")
    {W9 : Nat} {Pre : Pt → Array Value → Prop} {Post : Pt → Array Value → Option Value → Pt → Prop} {PostX : Pt → Array Value → Addr → Pt → Prop} (hK : vx_Back l R p e below s args y 3 W9 Pre Post PostX)
    {b : Addr} {cellB : Cell} (hcell : T.heap[b]? = some cellB) (hobj : cellB.vm.isStatics = false) (hcls : s.vm.findClass C = some cellB.cls)
    {g : JFrame} (hg : g.method = m) (hsize : g.locals.size = c.maxLocals) {argsL rest : List Value} (hlen : ∀ sig, parseMethodDescriptor y.desc = some sig → argsL.length = sig.parameters.length)
    (hstack : g.stack = argsL.reverse ++ .ref b :: rest) (hW : 2 * g.monitorRoom + (rest.map fun v => v.category).sum ≤ W9) (hdg : decode c.code g.pc = .ok (.invokevirtual index, 3))
    (hpre : ∀ vm₁, s.WarmedH vm₁ → Pre ⟨T.setVm vm₁, locs, cells, slots⟩ (Value.ref b :: argsL).toArray) :
    (∃ (v : Option Value) (vm₁ : Vm) (B : Pt), s.WarmedH vm₁ ∧ Stand p l e R s m args below meth c B.U B.locs B.cells B.slots ∧ Post ⟨T.setVm vm₁, locs, cells, slots⟩ (Value.ref b :: argsL).toArray v B ∧
      ∀ target, Steps p.tables e below (B.U.setTop { g with pc := g.pc + 3, stack := v.toList ++ rest }) target → Steps p.tables e below (T.setTop g) target) ∨
    (∃ (q : Addr) (vm₁ : Vm) (B : Pt), s.WarmedH vm₁ ∧ Stand p l e R s m args below meth c B.U B.locs B.cells B.slots ∧ PostX ⟨T.setVm vm₁, locs, cells, slots⟩ (Value.ref b :: argsL).toArray q B ∧
      Steps p.tables e below (T.setTop g) ((B.U.setTop { g with stack := rest }).pushFrame (.throwing q))) := by
  obtain ⟨mk, methM, hnamed, hmethM, hstM, habM⟩ := Cond.instanceMethod_spec hinst
  obtain ⟨methM', cM, hmethM', -, -, -, -, -, -, hsigM⟩ := Cond.code_spec hnamed hcode
  cases hmethM.symm.trans hmethM'
  obtain ⟨c2, r2, m2, q1, q2, q3, q4, kP, hkP, hkPi⟩ := Cond.selects_spec hsel
  cases hcls.symm.trans q1
  cases (State.methodFound?_of_named hnamed hy).symm.trans q2
  cases hnamed.symm.trans q3
  have hselP : selectMethod e.platform s.vm cellB.cls mk = .method mk := by rw [Launch.admits_selectMethod X.admits]; exact q4
  obtain ⟨vm₁, X₁, hstep₁⟩ := X.invokevirtual hexec hown hlink hnamed hmethM hstM hkP hkPi hy (a := b) (cell := cellB) hcell
    (fun z h => by rw [h] at hobj; cases hobj) hselP hmethM habM hkP hkPi (g := g) hg (argsL := argsL) (rest := rest) (hlen _ hsigM) hstack hdg
  rcases hK m meth c ⟨T.setVm vm₁, locs, cells, slots⟩ { g with stack := rest } (.invokevirtual index) mk (Value.ref b :: argsL).toArray X₁ hg hsize hdg hW (X₁.named hnamed) (hpre vm₁ X₁.warmed) with ⟨v, B, X', hpost, hsteps⟩ | ⟨q, B, X', hpost, hsteps⟩
  · exact Or.inl ⟨v, vm₁, B, X₁.warmed, X', hpost, fun target h => hstep₁ _ fun acts => by rw [doInvoke_state]; exact hsteps.trans h⟩
  · exact Or.inr ⟨q, vm₁, B, X₁.warmed, X', hpost, hstep₁ _ fun acts => by rw [doInvoke_state]; exact hsteps⟩
theorem vx_callS (X : Stand p l e R s m args below meth c T locs cells slots) (hexec : p.tables.exec = Jvm.exec) {own : String} {index : Nat} {y : MethodName} {bytes : ByteArray} {maxL : Nat} {ret : Option FieldType}
    (hown : s.vm.findClass own = some m.cls) (hlink : (Cond.methodLink own index y).before args s = true) (hstat : (Cond.static y).before args s = true) (hinit : (Cond.initialized y.cls).before args s = true)
    (hcode : (Cond.code y bytes maxL ret).before args s = true) (hy : y.cls ≠ "java/lang/invoke/MethodHandle" ∧ y.cls ≠ "java/lang/invoke/VarHandle")
    {W9 : Nat} {Pre : Pt → Array Value → Prop} {Post : Pt → Array Value → Option Value → Pt → Prop} {PostX : Pt → Array Value → Addr → Pt → Prop} (hK : vx_Back l R p e below s args y 3 W9 Pre Post PostX)
    {g : JFrame} (hg : g.method = m) (hsize : g.locals.size = c.maxLocals) {argsL rest : List Value} (hlen : ∀ sig, parseMethodDescriptor y.desc = some sig → argsL.length = sig.parameters.length)
    (hstack : g.stack = argsL.reverse ++ rest) (hW : 2 * g.monitorRoom + (rest.map fun v => v.category).sum ≤ W9) (hdg : decode c.code g.pc = .ok (.invokestatic index, 3))
    (hpre : ∀ vm₁, s.WarmedH vm₁ → Pre ⟨T.setVm vm₁, locs, cells, slots⟩ argsL.toArray) :
    (∃ (v : Option Value) (vm₁ : Vm) (B : Pt), s.WarmedH vm₁ ∧ Stand p l e R s m args below meth c B.U B.locs B.cells B.slots ∧ Post ⟨T.setVm vm₁, locs, cells, slots⟩ argsL.toArray v B ∧
      ∀ target, Steps p.tables e below (B.U.setTop { g with pc := g.pc + 3, stack := v.toList ++ rest }) target → Steps p.tables e below (T.setTop g) target) ∨
    (∃ (q : Addr) (vm₁ : Vm) (B : Pt), s.WarmedH vm₁ ∧ Stand p l e R s m args below meth c B.U B.locs B.cells B.slots ∧ PostX ⟨T.setVm vm₁, locs, cells, slots⟩ argsL.toArray q B ∧
      Steps p.tables e below (T.setTop g) ((B.U.setTop { g with stack := rest }).pushFrame (.throwing q))) := by
  obtain ⟨mk, hnamed⟩ := Cond.code_named hcode
  obtain ⟨methM, cM, hmethM, -, -, -, -, -, -, hsigM⟩ := Cond.code_spec hnamed hcode
  have hstatic : methM.isStatic = true := Cond.static_spec hnamed hmethM hstat
  obtain ⟨kP, hkP, -⟩ := className_of_methodNamed hnamed
  have hinitP : kP.init = .initialized := Cond.initialized_spec (findClass_of_methodNamed hnamed) hkP hinit
  obtain ⟨vm₁, X₁, hstep₁⟩ := X.invokestatic hexec hown hlink hnamed hmethM hstatic hkP hinitP hy (g := g) hg (argsL := argsL) (rest := rest) (hlen _ hsigM) hstack hdg
  rcases hK m meth c ⟨T.setVm vm₁, locs, cells, slots⟩ { g with stack := rest } (.invokestatic index) mk argsL.toArray X₁ hg hsize hdg hW (X₁.named hnamed) (hpre vm₁ X₁.warmed) with ⟨v, B, X', hpost, hsteps⟩ | ⟨q, B, X', hpost, hsteps⟩
  · exact Or.inl ⟨v, vm₁, B, X₁.warmed, X', hpost, fun target h => hstep₁ _ fun acts => by rw [doInvoke_state]; exact hsteps.trans h⟩
  · exact Or.inr ⟨q, vm₁, B, X₁.warmed, X', hpost, hstep₁ _ fun acts => by rw [doInvoke_state]; exact hsteps⟩
end Calls
theorem vx_cls {s : State} {T : State} {vm₁ : Vm} {E : String} {k : ClassId} (hW : s.WarmedH vm₁) (h : (T.setVm vm₁).vm.findClass E = some k) : s.vm.findClass E = some k := by
  have h1 : vm₁.findClass E = some k := h
  rw [hW.alike.findClass] at h1
  exact h1
/-- the method's frame g, with q thrown over it -/
def vx_W (p : Program) (l : Launch) (e : Env) (R : Room) (s : State) (m : MethodId) (args : Array Value) (below : List Frame) (meth : Method) (c : Code) (H : Heap) (locs : List Loc) (cells slots : Nat) (Q : State → Prop) (g : JFrame) (q : Addr) : Prop :=
  ∀ T : State, T.heap = H → Stand p l e R s m args below meth c T locs cells slots → ∃ t, Steps p.tables e below ((T.setTop g).pushFrame (.throwing q)) t ∧ Q t
def vx_Run (p : Program) (l : Launch) (e : Env) (R : Room) (s : State) (m : MethodId) (args : Array Value) (below : List Frame) (meth : Method) (c : Code) (H : Heap) (locs : List Loc) (cells slots mc ms : Nat) (g : JFrame) (rest : List Value) (Qa : State → Outcome → State → Prop) (XC : String → State → State → Prop) (free : Addr → Prop) : Prop :=
  ∀ T : State, T.heap = H → Stand p l e R s m args below meth c T locs cells slots →
    (∃ (v : Option Value) (st₀ t T' : State) (L : List Loc), st₀.heap = H ∧ Stand p l e R s m args below meth c T' (locs ++ L) (cells + mc) (slots + ms) ∧ (∀ q ∈ L, free q.base) ∧ T'.heap = t.heap ∧ T'.vm = t.vm ∧ Qa st₀ (.returned v) t ∧
      Goes p e below T g T' { g with pc := g.pc + 3, stack := v.toList ++ rest }) ∨
    (∃ (q : Addr) (st₀ t T' : State) (L : List Loc) (E : String) (ce : Cell), st₀.heap = H ∧ Stand p l e R s m args below meth c T' (locs ++ L) (cells + mc) (slots + ms) ∧ (∀ z ∈ L, free z.base) ∧ T'.heap = t.heap ∧ T'.vm = t.vm ∧ XC E st₀ t ∧ t.heap[q]? = some ce ∧ ce.vm = .none ∧ s.vm.findClass E = some ce.cls ∧
      Steps p.tables e below (T.setTop g) ((T'.setTop { g with stack := rest }).pushFrame (.throwing q)))
def vx_X {S : Type} (px : S → Prop) (B : String → S → State → Prop) (A : Nat → Prop) : String → State → State → Prop := fun E st t => ∃ u : S, px u ∧ B E u t ∧ va_F A st t
section Runs
variable {p : Program} {l : Launch} {e : Env} {R : Room} {s : State} {m : MethodId} {args : Array Value} {below : List Frame} {meth : Method} {c : Code} {H : Heap} {locs : List Loc} {cells slots : Nat}
variable {y : MethodName} {bytes cc : ByteArray} {maxL nL mc ms n index : Nat} {ret : Option FieldType} {ws : List Cond} {rm : Room} {Pc : Array Value → State → Prop} {Qc : Array Value → State → Outcome → State → Prop} {XC : String → State → State → Prop} {free : Addr → Prop} {Ts : List Cond} {own C : String} {b : Addr} {As rest : List Value} {g : JFrame}
theorem vx_callBack (cb : CallB R s args own index y bytes maxL ret ws rm mc ms n) (hM : vx_Met l y ws rm Pc Qc XC mc ms free) (hbl : FrameBlind Pc) : vx_Back l R p e below s args y 3 8 (PreOf R mc ms Pc) (PostOf Qc mc ms free) (vx_Post XC mc ms free) := by
  obtain ⟨hrc, hrs, hfr, hlo, hws, hcw, -, hini, -⟩ := cb
  exact vx_back (bytes := bytes) (maxL := maxL) (ret := ret) hM hbl hrc hrs hfr hlo hws hcw (fun a' U hW => word_at hW (Or.inl (by first | rfl | simp [Cond.onTables, Cond.keeps, Cond.steady])) hini)
theorem vx_runV (S : CallFix p m c cc nL s args Ts own) (hM : vx_Met l y ws rm Pc Qc XC mc ms free) (cw : CallW R s args own C index y bytes maxL ret ws rm mc ms n) (hp : PreV s H C b Pc As)
    (hg : g.method = m) (hn : As.length = n) (hsize : g.locals.size = nL) (hstack : g.stack = As.reverse ++ .ref b :: rest) (hW : 2 * g.monitorRoom + (rest.map fun v => v.category).sum ≤ 8) (hdg : decode cc g.pc = .ok (.invokevirtual index, 3)) (hf : cells + mc ≤ R.cells ∧ slots + ms ≤ R.slots) :
    vx_Run p l e R s m args below meth c H locs cells slots mc ms g rest (Qc (Value.ref b :: As).toArray) XC free := by
  have hK : vx_Back l R p e below s args y 3 8 (PreOf R mc ms Pc) (PostOf Qc mc ms free) (vx_Post XC mc ms free) := vx_callBack cw.1 hM hp.1
  obtain ⟨⟨-, -, -, -, -, -, hcode, -, hy, hlen, hl⟩, hin, hse⟩ := cw
  obtain ⟨hx, hb, hml, ho, -⟩ := S
  obtain ⟨-, ⟨cellB, hcB, hoB, hclB⟩, hPc⟩ := hp
  intro T hT X
  rcases vx_callV X hx (C := C) (bytes := bytes) (maxL := maxL) (ret := ret) ho hl hin hse hcode hy hK (by rw [hT]; exact hcB) hoB hclB hg (hsize.trans hml.symm) (argsL := As) (rest := rest) (fun sig h => hn.trans (hlen sig h)) hstack hW (by rw [hb]; exact hdg)
    (fun vm₁ hW₁ => ⟨hf.1, hf.2, hPc (T.setVm vm₁) hT hW₁⟩) with ⟨v, vm₁, ⟨U', l2, c2, s2⟩, hW₁, X', ⟨g', mk, t, L, e1, e2, hq, h1, hL, h2, h3⟩, st⟩ | ⟨q, vm₁, ⟨U', l2, c2, s2⟩, hW₁, X', ⟨g', mk, t, L, E, ce, e1, e2, hq, hce, hcv, hcl, h1, hL, h2, h3⟩, st⟩
  · dsimp only [Pt.U, Pt.locs, Pt.cells, Pt.slots] at X' e1 e2 h1 h2 h3 st
    subst h1; subst h2; subst h3
    exact Or.inl ⟨v, (T.setVm vm₁).calling g' mk (Value.ref b :: As).toArray, t, U', L, hT, X', hL, e1, e2, hq, st⟩
  · dsimp only [Pt.U, Pt.locs, Pt.cells, Pt.slots] at X' e1 e2 h1 h2 h3 st hcl
    subst h1; subst h2; subst h3
    exact Or.inr ⟨q, (T.setVm vm₁).calling g' mk (Value.ref b :: As).toArray, t, U', L, E, ce, hT, X', hL, e1, e2, hq, hce, hcv, vx_cls hW₁ hcl, st⟩
theorem vx_runS (S : CallFix p m c cc nL s args Ts own) (hM : vx_Met l y ws rm Pc Qc XC mc ms free) (cw : CallB R s args own index y bytes maxL ret ws rm mc ms n ∧ (Cond.static y).before args s = true) (hp : PreS s H Pc As)
    (hg : g.method = m) (hn : As.length = n) (hsize : g.locals.size = nL) (hstack : g.stack = As.reverse ++ rest) (hW : 2 * g.monitorRoom + (rest.map fun v => v.category).sum ≤ 8) (hdg : decode cc g.pc = .ok (.invokestatic index, 3)) (hf : cells + mc ≤ R.cells ∧ slots + ms ≤ R.slots) :
    vx_Run p l e R s m args below meth c H locs cells slots mc ms g rest (Qc As.toArray) XC free := by
  have hK : vx_Back l R p e below s args y 3 8 (PreOf R mc ms Pc) (PostOf Qc mc ms free) (vx_Post XC mc ms free) := vx_callBack cw.1 hM hp.1
  obtain ⟨⟨-, -, -, -, -, -, hcode, hini, hy, hlen, hl⟩, hstt⟩ := cw
  obtain ⟨hx, hb, hml, ho, -⟩ := S
  intro T hT X
  rcases vx_callS X hx (bytes := bytes) (maxL := maxL) (ret := ret) ho hl hstt hini hcode hy hK hg (hsize.trans hml.symm) (argsL := As) (rest := rest) (fun sig h => hn.trans (hlen sig h)) hstack hW (by rw [hb]; exact hdg)
    (fun vm₁ hW₁ => ⟨hf.1, hf.2, hp.2 (T.setVm vm₁) hT hW₁⟩) with ⟨v, vm₁, ⟨U', l2, c2, s2⟩, hW₁, X', ⟨g', mk, t, L, e1, e2, hq, h1, hL, h2, h3⟩, st⟩ | ⟨q, vm₁, ⟨U', l2, c2, s2⟩, hW₁, X', ⟨g', mk, t, L, E, ce, e1, e2, hq, hce, hcv, hcl, h1, hL, h2, h3⟩, st⟩
  · dsimp only [Pt.U, Pt.locs, Pt.cells, Pt.slots] at X' e1 e2 h1 h2 h3 st
    subst h1; subst h2; subst h3
    exact Or.inl ⟨v, (T.setVm vm₁).calling g' mk As.toArray, t, U', L, hT, X', hL, e1, e2, hq, st⟩
  · dsimp only [Pt.U, Pt.locs, Pt.cells, Pt.slots] at X' e1 e2 h1 h2 h3 st hcl
    subst h1; subst h2; subst h3
    exact Or.inr ⟨q, (T.setVm vm₁).calling g' mk As.toArray, t, U', L, E, ce, hT, X', hL, e1, e2, hq, hce, hcv, vx_cls hW₁ hcl, st⟩
end Runs
section Rows
variable {p : Program} {l : Launch} {e : Env} {R : Room} {s : State} {m : MethodId} {args : Array Value} {below : List Frame} {meth : Method} {c : Code} {H : Heap} {locs : List Loc} {cells slots : Nat} {Q : State → Prop}
variable {mc ms : Nat} {free : Addr → Prop} {A0 A1 : Nat → Prop} {H0 : Heap} {a : Array Value} {pc : Nat} {ls : Array Slot} {st0 rest : List Value}
theorem vx_keep {st₀ t T' : State} {L : List Loc} (h0 : st₀.heap = H) (e1 : T'.heap = t.heap) (hS : va_S A0 H0 H locs) (hA : ∀ q, q < H.size → A1 q → A0 q) (hf : ∀ q, free q → A0 q) (hL : ∀ q ∈ L, free q.base) (hF : va_F A1 st₀ t) :
    H.size ≤ T'.heap.size ∧ (∀ q : Nat, q < H.size → ¬ A1 q → T'.heap[q]? = H[q]?) ∧ va_S A0 H0 T'.heap (locs ++ L) := by
  obtain ⟨hz, hk⟩ := hF
  rw [h0] at hz hk
  exact ⟨by rw [e1]; exact hz, fun q h1 h2 => by rw [e1]; exact hk q h1 h2,
    ⟨Nat.le_trans hS.1 (by rw [e1]; exact hz), fun q h1 h2 => by rw [e1, hk q (Nat.lt_of_lt_of_le h1 hS.1) (fun z => h2 (hA q (Nat.lt_of_lt_of_le h1 hS.1) z))]; exact hS.2.1 q h1 h2, fun q hq => by
      rcases List.mem_append.mp hq with h | h
      · exact hS.2.2 q h
      · exact hf _ (hL q h)⟩⟩
theorem vx_calli {S SX : Type} {post : Int32 → S → Prop} {px : SX → Prop} {B : S → State → Prop} {BX : String → SX → State → Prop} {AX : Nat → Prop} (hr : vx_Run p l e R s m args below meth c H locs cells slots mc ms (F0 m pc ls st0) rest (va_Qi post B A1 a) (vx_X px BX AX) free) (hS : va_S A0 H0 H locs) (hA : ∀ q, q < H.size → A1 q → A0 q) (hf : ∀ q, free q → A0 q) (hAX : ∀ q, q < H.size → AX q → A0 q)
    (kx : ∀ (E : String) (ce : Cell) (q9 : Addr) (u : SX) (t : State) (H1 : Heap) (locs1 : List Loc), t.heap = H1 → s.vm.Alike t.vm → px u → BX E u t → H.size ≤ H1.size → (∀ q : Nat, q < H.size → ¬ AX q → H1[q]? = H[q]?) → va_S A0 H0 H1 locs1 → H1[q9]? = some ce → ce.vm = .none → s.vm.findClass E = some ce.cls → vx_W p l e R s m args below meth c H1 locs1 (cells + mc) (slots + ms) Q (F0 m pc ls rest) q9)
    (kk : ∀ (r : Int32) (u : S) (t : State) (H1 : Heap) (locs1 : List Loc), t.heap = H1 → s.vm.Alike t.vm → post r u → B u t → H.size ≤ H1.size → (∀ q : Nat, q < H.size → ¬ A1 q → H1[q]? = H[q]?) → va_S A0 H0 H1 locs1 → W p l e R s m args below meth c H1 locs1 (cells + mc) (slots + ms) Q (F0 m (pc + 3) ls (.int r :: rest))) : W p l e R s m args below meth c H locs cells slots Q (F0 m pc ls st0) := by
  intro T hT X
  rcases hr T hT X with ⟨v, st₀, t, T', L, h0, X', hL, e1, e2, ⟨⟨r, u, hv, hp, hb⟩, hF⟩, st⟩ | ⟨q, st₀, t, T', L, E, ce, h0, X', hL, e1, e2, ⟨u, hp, hb, hF⟩, hce, hcv, hcl, st⟩
  · cases hv
    obtain ⟨k1, k2, k3⟩ := vx_keep h0 e1 hS hA hf hL hF
    obtain ⟨t2, a1, b1⟩ := kk r u t T'.heap (locs ++ L) e1.symm (by rw [← e2]; exact X'.warmed.alike) hp hb k1 k2 k3 T' rfl X'
    exact ⟨t2, st t2 a1, b1⟩
  · obtain ⟨k1, k2, k3⟩ := vx_keep h0 e1 hS hAX hf hL hF
    obtain ⟨t2, a1, b1⟩ := kx E ce q u t T'.heap (locs ++ L) e1.symm (by rw [← e2]; exact X'.warmed.alike) hp hb k1 k2 k3 (by rw [e1]; exact hce) hcv hcl T' rfl X'
    exact ⟨t2, st.trans a1, b1⟩
theorem vx_calll {S SX : Type} {post : Int64 → S → Prop} {px : SX → Prop} {B : S → State → Prop} {BX : String → SX → State → Prop} {AX : Nat → Prop} (hr : vx_Run p l e R s m args below meth c H locs cells slots mc ms (F0 m pc ls st0) rest (va_Ql post B A1 a) (vx_X px BX AX) free) (hS : va_S A0 H0 H locs) (hA : ∀ q, q < H.size → A1 q → A0 q) (hf : ∀ q, free q → A0 q) (hAX : ∀ q, q < H.size → AX q → A0 q)
    (kx : ∀ (E : String) (ce : Cell) (q9 : Addr) (u : SX) (t : State) (H1 : Heap) (locs1 : List Loc), t.heap = H1 → s.vm.Alike t.vm → px u → BX E u t → H.size ≤ H1.size → (∀ q : Nat, q < H.size → ¬ AX q → H1[q]? = H[q]?) → va_S A0 H0 H1 locs1 → H1[q9]? = some ce → ce.vm = .none → s.vm.findClass E = some ce.cls → vx_W p l e R s m args below meth c H1 locs1 (cells + mc) (slots + ms) Q (F0 m pc ls rest) q9)
    (kk : ∀ (r : Int64) (u : S) (t : State) (H1 : Heap) (locs1 : List Loc), t.heap = H1 → s.vm.Alike t.vm → post r u → B u t → H.size ≤ H1.size → (∀ q : Nat, q < H.size → ¬ A1 q → H1[q]? = H[q]?) → va_S A0 H0 H1 locs1 → W p l e R s m args below meth c H1 locs1 (cells + mc) (slots + ms) Q (F0 m (pc + 3) ls (.long r :: rest))) : W p l e R s m args below meth c H locs cells slots Q (F0 m pc ls st0) := by
  intro T hT X
  rcases hr T hT X with ⟨v, st₀, t, T', L, h0, X', hL, e1, e2, ⟨⟨r, u, hv, hp, hb⟩, hF⟩, st⟩ | ⟨q, st₀, t, T', L, E, ce, h0, X', hL, e1, e2, ⟨u, hp, hb, hF⟩, hce, hcv, hcl, st⟩
  · cases hv
    obtain ⟨k1, k2, k3⟩ := vx_keep h0 e1 hS hA hf hL hF
    obtain ⟨t2, a1, b1⟩ := kk r u t T'.heap (locs ++ L) e1.symm (by rw [← e2]; exact X'.warmed.alike) hp hb k1 k2 k3 T' rfl X'
    exact ⟨t2, st t2 a1, b1⟩
  · obtain ⟨k1, k2, k3⟩ := vx_keep h0 e1 hS hAX hf hL hF
    obtain ⟨t2, a1, b1⟩ := kx E ce q u t T'.heap (locs ++ L) e1.symm (by rw [← e2]; exact X'.warmed.alike) hp hb k1 k2 k3 (by rw [e1]; exact hce) hcv hcl T' rfl X'
    exact ⟨t2, st.trans a1, b1⟩
theorem vx_callf {S SX : Type} {post : UInt32 → S → Prop} {px : SX → Prop} {B : S → State → Prop} {BX : String → SX → State → Prop} {AX : Nat → Prop} (hr : vx_Run p l e R s m args below meth c H locs cells slots mc ms (F0 m pc ls st0) rest (va_Qf post B A1 a) (vx_X px BX AX) free) (hS : va_S A0 H0 H locs) (hA : ∀ q, q < H.size → A1 q → A0 q) (hf : ∀ q, free q → A0 q) (hAX : ∀ q, q < H.size → AX q → A0 q)
    (kx : ∀ (E : String) (ce : Cell) (q9 : Addr) (u : SX) (t : State) (H1 : Heap) (locs1 : List Loc), t.heap = H1 → s.vm.Alike t.vm → px u → BX E u t → H.size ≤ H1.size → (∀ q : Nat, q < H.size → ¬ AX q → H1[q]? = H[q]?) → va_S A0 H0 H1 locs1 → H1[q9]? = some ce → ce.vm = .none → s.vm.findClass E = some ce.cls → vx_W p l e R s m args below meth c H1 locs1 (cells + mc) (slots + ms) Q (F0 m pc ls rest) q9)
    (kk : ∀ (r : UInt32) (u : S) (t : State) (H1 : Heap) (locs1 : List Loc), t.heap = H1 → s.vm.Alike t.vm → post r u → B u t → H.size ≤ H1.size → (∀ q : Nat, q < H.size → ¬ A1 q → H1[q]? = H[q]?) → va_S A0 H0 H1 locs1 → W p l e R s m args below meth c H1 locs1 (cells + mc) (slots + ms) Q (F0 m (pc + 3) ls (.float r :: rest))) : W p l e R s m args below meth c H locs cells slots Q (F0 m pc ls st0) := by
  intro T hT X
  rcases hr T hT X with ⟨v, st₀, t, T', L, h0, X', hL, e1, e2, ⟨⟨r, u, hv, hp, hb⟩, hF⟩, st⟩ | ⟨q, st₀, t, T', L, E, ce, h0, X', hL, e1, e2, ⟨u, hp, hb, hF⟩, hce, hcv, hcl, st⟩
  · cases hv
    obtain ⟨k1, k2, k3⟩ := vx_keep h0 e1 hS hA hf hL hF
    obtain ⟨t2, a1, b1⟩ := kk r u t T'.heap (locs ++ L) e1.symm (by rw [← e2]; exact X'.warmed.alike) hp hb k1 k2 k3 T' rfl X'
    exact ⟨t2, st t2 a1, b1⟩
  · obtain ⟨k1, k2, k3⟩ := vx_keep h0 e1 hS hAX hf hL hF
    obtain ⟨t2, a1, b1⟩ := kx E ce q u t T'.heap (locs ++ L) e1.symm (by rw [← e2]; exact X'.warmed.alike) hp hb k1 k2 k3 (by rw [e1]; exact hce) hcv hcl T' rfl X'
    exact ⟨t2, st.trans a1, b1⟩
theorem vx_calld {S SX : Type} {post : UInt64 → S → Prop} {px : SX → Prop} {B : S → State → Prop} {BX : String → SX → State → Prop} {AX : Nat → Prop} (hr : vx_Run p l e R s m args below meth c H locs cells slots mc ms (F0 m pc ls st0) rest (va_Qd post B A1 a) (vx_X px BX AX) free) (hS : va_S A0 H0 H locs) (hA : ∀ q, q < H.size → A1 q → A0 q) (hf : ∀ q, free q → A0 q) (hAX : ∀ q, q < H.size → AX q → A0 q)
    (kx : ∀ (E : String) (ce : Cell) (q9 : Addr) (u : SX) (t : State) (H1 : Heap) (locs1 : List Loc), t.heap = H1 → s.vm.Alike t.vm → px u → BX E u t → H.size ≤ H1.size → (∀ q : Nat, q < H.size → ¬ AX q → H1[q]? = H[q]?) → va_S A0 H0 H1 locs1 → H1[q9]? = some ce → ce.vm = .none → s.vm.findClass E = some ce.cls → vx_W p l e R s m args below meth c H1 locs1 (cells + mc) (slots + ms) Q (F0 m pc ls rest) q9)
    (kk : ∀ (r : UInt64) (u : S) (t : State) (H1 : Heap) (locs1 : List Loc), t.heap = H1 → s.vm.Alike t.vm → post r u → B u t → H.size ≤ H1.size → (∀ q : Nat, q < H.size → ¬ A1 q → H1[q]? = H[q]?) → va_S A0 H0 H1 locs1 → W p l e R s m args below meth c H1 locs1 (cells + mc) (slots + ms) Q (F0 m (pc + 3) ls (.double r :: rest))) : W p l e R s m args below meth c H locs cells slots Q (F0 m pc ls st0) := by
  intro T hT X
  rcases hr T hT X with ⟨v, st₀, t, T', L, h0, X', hL, e1, e2, ⟨⟨r, u, hv, hp, hb⟩, hF⟩, st⟩ | ⟨q, st₀, t, T', L, E, ce, h0, X', hL, e1, e2, ⟨u, hp, hb, hF⟩, hce, hcv, hcl, st⟩
  · cases hv
    obtain ⟨k1, k2, k3⟩ := vx_keep h0 e1 hS hA hf hL hF
    obtain ⟨t2, a1, b1⟩ := kk r u t T'.heap (locs ++ L) e1.symm (by rw [← e2]; exact X'.warmed.alike) hp hb k1 k2 k3 T' rfl X'
    exact ⟨t2, st t2 a1, b1⟩
  · obtain ⟨k1, k2, k3⟩ := vx_keep h0 e1 hS hAX hf hL hF
    obtain ⟨t2, a1, b1⟩ := kx E ce q u t T'.heap (locs ++ L) e1.symm (by rw [← e2]; exact X'.warmed.alike) hp hb k1 k2 k3 (by rw [e1]; exact hce) hcv hcl T' rfl X'
    exact ⟨t2, st.trans a1, b1⟩
theorem vx_callv {S SX : Type} {post : S → Prop} {px : SX → Prop} {B : S → State → Prop} {BX : String → SX → State → Prop} {AX : Nat → Prop} (hr : vx_Run p l e R s m args below meth c H locs cells slots mc ms (F0 m pc ls st0) rest (va_Qv post B A1 a) (vx_X px BX AX) free) (hS : va_S A0 H0 H locs) (hA : ∀ q, q < H.size → A1 q → A0 q) (hf : ∀ q, free q → A0 q) (hAX : ∀ q, q < H.size → AX q → A0 q)
    (kx : ∀ (E : String) (ce : Cell) (q9 : Addr) (u : SX) (t : State) (H1 : Heap) (locs1 : List Loc), t.heap = H1 → s.vm.Alike t.vm → px u → BX E u t → H.size ≤ H1.size → (∀ q : Nat, q < H.size → ¬ AX q → H1[q]? = H[q]?) → va_S A0 H0 H1 locs1 → H1[q9]? = some ce → ce.vm = .none → s.vm.findClass E = some ce.cls → vx_W p l e R s m args below meth c H1 locs1 (cells + mc) (slots + ms) Q (F0 m pc ls rest) q9)
    (kk : ∀ (u : S) (t : State) (H1 : Heap) (locs1 : List Loc), t.heap = H1 → s.vm.Alike t.vm → post u → B u t → H.size ≤ H1.size → (∀ q : Nat, q < H.size → ¬ A1 q → H1[q]? = H[q]?) → va_S A0 H0 H1 locs1 → W p l e R s m args below meth c H1 locs1 (cells + mc) (slots + ms) Q (F0 m (pc + 3) ls (rest))) : W p l e R s m args below meth c H locs cells slots Q (F0 m pc ls st0) := by
  intro T hT X
  rcases hr T hT X with ⟨v, st₀, t, T', L, h0, X', hL, e1, e2, ⟨⟨u, hv, hp, hb⟩, hF⟩, st⟩ | ⟨q, st₀, t, T', L, E, ce, h0, X', hL, e1, e2, ⟨u, hp, hb, hF⟩, hce, hcv, hcl, st⟩
  · cases hv
    obtain ⟨k1, k2, k3⟩ := vx_keep h0 e1 hS hA hf hL hF
    obtain ⟨t2, a1, b1⟩ := kk u t T'.heap (locs ++ L) e1.symm (by rw [← e2]; exact X'.warmed.alike) hp hb k1 k2 k3 T' rfl X'
    exact ⟨t2, st t2 a1, b1⟩
  · obtain ⟨k1, k2, k3⟩ := vx_keep h0 e1 hS hAX hf hL hF
    obtain ⟨t2, a1, b1⟩ := kx E ce q u t T'.heap (locs ++ L) e1.symm (by rw [← e2]; exact X'.warmed.alike) hp hb k1 k2 k3 (by rw [e1]; exact hce) hcv hcl T' rfl X'
    exact ⟨t2, st.trans a1, b1⟩
/-- caught by the row x of this method's table; the rows ahead don't take it -/
theorem vx_catch {own name : String} {E : String} {ce : Cell} {q : Addr} (hown : s.vm.findClass own = some m.cls) (pre : List ExceptionTableEntry) (x : ExceptionTableEntry) (suf : List ExceptionTableEntry) (hsplit : c.exceptionTable.toList = pre ++ x :: suf)
    (hpass : ∀ z ∈ pre, covers z pc = false ∨ (z.catchType ≠ 0 ∧ ∃ nm : String, (Cond.classLink own z.catchType nm).before args s = true ∧ va_Nc E nm s)) (hx : covers x pc = true) (h0 : x.catchType ≠ 0)
    (hlink : (Cond.classLink own x.catchType name).before args s = true) (hcast : (Cond.castable E name).before args s = true) (hcell : H[q]? = some ce) (hv : ce.vm = .none) (hcl : s.vm.findClass E = some ce.cls)
    (kk : W p l e R s m args below meth c H locs cells slots Q (F0 m x.handlerPc ls [.ref q])) : vx_W p l e R s m args below meth c H locs cells slots Q (F0 m pc ls rest) q := by
  intro T hT X
  have hpl : e.platform.magicAccessors = ({} : Platform).magicAccessors := by rw [X.admits.platform]
  obtain ⟨c3, c4, hc3, hc4, hasg⟩ := Cond.castable_spec hcast
  cases Option.some.inj (hc3.symm.trans hcl)
  obtain ⟨c5, hc5, hcl5⟩ := Cond.classLink_spec hown hlink e.platform hpl
  cases Option.some.inj (hc4.symm.trans hc5)
  obtain ⟨vm', X', st⟩ := X.thenCaughtThrough q (g := F0 m pc ls rest) rfl (Steps.refl _) (by rw [hT]; exact hcell) (by rw [hv]; rfl) (by obtain ⟨k9, h9, -⟩ := Vm.findClass_spec hcl; exact ⟨k9, h9⟩) pre x suf hsplit
    (fun z hz => by
      rcases hpass z hz with h | ⟨hz0, nm, hl1, hn1⟩
      · exact Or.inl h
      · obtain ⟨c6, hc6, hcl6⟩ := Cond.classLink_spec hown hl1 e.platform hpl
        obtain ⟨a8, b8, h1, h2, h3⟩ := hn1
        cases Option.some.inj (h1.symm.trans hcl)
        cases Option.some.inj (h2.symm.trans hc6)
        exact Or.inr ⟨hz0, _, hcl6, h3⟩) hx (Or.inr ⟨h0, c4, hcl5, hasg⟩)
  obtain ⟨t, a1, b1⟩ := kk (T.setVm vm') hT X'
  exact ⟨t, st.trans a1, b1⟩
end Rows
section Ends
variable {p : Program} {l : Launch} {e : Env} {R : Room} {s : State} {m : MethodId} {args : Array Value} {below : List Frame} {meth : Method} {c : Code} {H : Heap} {locs : List Loc} {cells slots : Nat} {Q : State → Prop}
variable {mc ms : Nat} {free : Addr → Prop} {A0 A1 : Nat → Prop} {H0 : Heap} {a : Array Value} {ls : Array Slot} {st0 rest : List Value}
variable {Qc : Array Value → State → Outcome → State → Prop} {XC : String → State → State → Prop}
/-- what a body that may throw owes at its end -/
def vx_MQ (below : List Frame) (Qc : Array Value → State → Outcome → State → Prop) (XC : String → State → State → Prop) (a : Array Value) (s : State) (mc ms : Nat) (free : Addr → Prop) : State → Prop := fun t =>
  ∃ o, t.status = .running ∧ Ended t below o ∧ vx_Q Qc XC mc ms free a s o t
theorem vx_ret {g : JFrame} {mc ms : Nat} (k : W p l e R s m args below meth c H locs cells slots (MQ below Qc args s mc ms free) g) : W p l e R s m args below meth c H locs cells slots (vx_MQ below Qc XC args s mc ms free) g := by
  intro T hT X
  obtain ⟨t, a1, o, b1, b2, b3, b4⟩ := k T hT X
  exact ⟨t, a1, o, b1, b2, Or.inl ⟨b3, b4⟩⟩
/-- not caught here: it goes on to the caller -/
theorem vx_widen {g : JFrame} {q : Addr} {k n : Nat} (h1 : cells ≤ k) (h2 : slots ≤ n) (kk : vx_W p l e R s m args below meth c H locs k n Q g q) : vx_W p l e R s m args below meth c H locs cells slots Q g q := fun T hT X => kk T hT (stand_widen X h1 h2)
theorem vx_out {pc : Nat} {E : String} {ce : Cell} {q : Addr} {mc ms : Nat} (hout : ∀ x ∈ c.exceptionTable.toList, covers x pc = false) (hlocks : meth.locks = false) (hcell : H[q]? = some ce) (hv : ce.vm = .none) (hcl : s.vm.findClass E = some ce.cls)
    (hx : ∀ t : State, t.heap = H → s.vm.Alike t.vm → XC E s t) (hf : ∀ z ∈ locs, free z.base) (hc : cells ≤ mc) (hs : slots ≤ ms) :
    vx_W p l e R s m args below meth c H locs cells slots (vx_MQ below Qc XC args s mc ms free) (F0 m pc ls rest) q := by
  intro T hT X
  obtain ⟨st1, hrun, hend, hW, hsm⟩ := X.leaveThrown q (g := F0 m pc ls rest) rfl rfl rfl hout hlocks
  have hcell9 : (T.setFrames (.throwing q :: below)).heap[q]? = some ce := by
    show T.heap[q]? = some ce
    rw [hT]; exact hcell
  exact ⟨_, st1, .threw q, hrun, hend, Or.inr ⟨q, rfl, E, ce, locs, hx _ hT hW.alike, hcell9, hv, hcl, hW, hsm.mono hc hs, hf⟩⟩
theorem vx_frame {U : State} {k n : Nat} (h : s.sameButNew ({ U with vm := s.vm } : State) locs k n) : s.heap.size ≤ U.heap.size ∧ ∀ q : Nat, q < s.heap.size → (∀ z ∈ locs, z.base ≠ q) → U.heap[q]? = s.heap[q]? := by
  obtain ⟨-, h2, -, -, -, h6⟩ := h
  refine ⟨h2, fun q hq hz => ?_⟩
  obtain ⟨c9, e1, e2, e3, e4⟩ := h6 q _ (Array.getElem?_eq_getElem hq)
  have hs : c9.slots = (s.heap[q]).slots := Array.ext_getElem? fun i => e4 i fun hm => hz _ hm rfl
  have h9 : c9 = s.heap[q] := by
    rw [hs] at e2
    exact e2
  have e5 : U.heap[q]? = some c9 := e1
  rw [e5, h9, Array.getElem?_eq_getElem hq]
/-- the words of a throw but the four that speak of the heap -/
def vx_no (w : Cond) : Bool := decide (w ≠ .isRef (.static Bundle.tN "UNASSIGNED_STACK" Bundle.steD)) && decide (w ≠ .isRef (.static Bundle.tN "SUPPRESSED_SENTINEL" Bundle.listD)) && decide (w ≠ .laysStatic Bundle.tN "UNASSIGNED_STACK" Bundle.steD) && decide (w ≠ .laysStatic Bundle.tN "SUPPRESSED_SENTINEL" Bundle.listD)
def vx_at0 (own : String) (ic : Nat) (X : String) (names : List String) : List Cond := (Bundle.ownAtoms0 own ic X names).filter vx_no
def vx_atS (own : String) (ic : Nat) (X : String) (names : List String) : List Cond := (Bundle.ownAtoms own ic X names).filter vx_no
/-- a word that the tables alone decide, or a good one -/
def vx_ot (w : Cond) : Bool := w.onTables || goodWord w
theorem vx_ot_at {args a' : Array Value} {s U : State} {w : Cond} (hW : s.WarmedH U.vm) (hvm : s.vm = U.vm) (hg : vx_ot w = true) (h : w.before args s = true) : w.before a' U = true := by
  simp only [vx_ot, Bool.or_eq_true] at hg
  rcases hg with hg | hg
  · exact va_tabs hg hvm h
  · exact word_at hW (good_of_word hg) h
/-- a list's words: the good ones out of the method's own list, the others by premises of their own -/
theorem vx_hat {args : Array Value} {s : State} {L B : List Cond} (h1 : ∀ w ∈ L.filter goodWord, w.before args s = true) (h2 : ∀ w ∈ L.filter (fun w => !goodWord w), w ∈ B) (h3 : ∀ w ∈ B, w.before args s = true) : ∀ w ∈ L, w.before args s = true := by
  intro w hw
  by_cases g : goodWord w = true
  · exact h1 w (List.mem_filter.mpr ⟨hw, g⟩)
  · refine h3 w (h2 w (List.mem_filter.mpr ⟨hw, ?_⟩))
    show (!goodWord w) = true
    cases hgw : goodWord w
    · rfl
    · exact absurd hgw g
theorem vx_c {args : Array Value} {s : State} {w : Cond} {B : List Cond} (h : w.before args s = true) (t : ∀ w ∈ B, w.before args s = true) : ∀ w' ∈ w :: B, w'.before args s = true := fun w' h' => (List.mem_cons.mp h').elim (fun e => by rw [e]; exact h) (t w')
theorem vx_n {args : Array Value} {s : State} : ∀ w ∈ ([] : List Cond), w.before args s = true := fun _ h => nomatch h
theorem vx_own {args : Array Value} {s : State} {L : List Cond} (h1 : ∀ w ∈ L.filter vx_no, w.before args s = true)
    (hU : (Cond.isRef (.static Bundle.tN "UNASSIGNED_STACK" Bundle.steD)).before args s = true) (hN : (Cond.isRef (.static Bundle.tN "SUPPRESSED_SENTINEL" Bundle.listD)).before args s = true)
    (lU : (Cond.laysStatic Bundle.tN "UNASSIGNED_STACK" Bundle.steD).before args s = true) (lN : (Cond.laysStatic Bundle.tN "SUPPRESSED_SENTINEL" Bundle.listD).before args s = true) : ∀ w ∈ L, w.before args s = true := by
  intro w hw
  by_cases e1 : w = .isRef (.static Bundle.tN "UNASSIGNED_STACK" Bundle.steD)
  · rw [e1]; exact hU
  · by_cases e2 : w = .isRef (.static Bundle.tN "SUPPRESSED_SENTINEL" Bundle.listD)
    · rw [e2]; exact hN
    · by_cases e3 : w = .laysStatic Bundle.tN "UNASSIGNED_STACK" Bundle.steD
      · rw [e3]; exact lU
      · by_cases e4 : w = .laysStatic Bundle.tN "SUPPRESSED_SENTINEL" Bundle.listD
        · rw [e4]; exact lN
        · exact h1 w (List.mem_filter.mpr ⟨hw, by unfold vx_no; rw [decide_eq_true e1, decide_eq_true e2, decide_eq_true e3, decide_eq_true e4]; rfl⟩)
/-- where a static field lies, its class's statics cell in H -/
def vx_L (C n d : String) (A : Nat → Prop) (U : State) (H : Heap) : Prop := ∃ (c : ClassId) (k : Class) (i : Nat) (f : Field) (a : Nat) (cell : Cell), U.vm.findClass C = some c ∧ U.fieldFound? C n d = some (c, k, i, f) ∧ f.isStatic = true ∧ k.statics = some a ∧ H[a]? = some cell ∧ cell.vm.isStatics = true ∧ cell.cls = c ∧ f.slot < cell.slots.size ∧ k.staticTypes[f.slot]? = some f.type ∧ ¬ A a
theorem vx_L.moved {C n d : String} {A : Nat → Prop} {u U : State} {H : Heap} (hvm : u.vm.Alike U.vm) (h : vx_L C n d A u H) : vx_L C n d A U H := by
  obtain ⟨c, k, i, f, a, cell, h1, h2, h3, h4, h5, h6, h7, h8, h9, h10⟩ := h
  obtain ⟨k', hi', he⟩ := State.fieldFound?_setVm hvm h2
  exact ⟨c, k', i, f, a, cell, by rw [hvm.findClass]; exact h1, hi', h3, by rw [he]; exact h4, h5, h6, h7, h8, by rw [he]; exact h9, h10⟩
theorem vx_L.kept {C n d : String} {A : Nat → Prop} {U : State} {H H1 : Heap} (h : vx_L C n d A U H) (hq : ∀ a : Nat, a < H.size → ¬ A a → H1[a]? = H[a]?) : vx_L C n d A U H1 := by
  obtain ⟨c, k, i, f, a, cell, h1, h2, h3, h4, h5, h6, h7, h8, h9, h10⟩ := h
  exact ⟨c, k, i, f, a, cell, h1, h2, h3, h4, by rw [hq a (Array.getElem?_eq_some_iff.mp h5).1 h10]; exact h5, h6, h7, h8, h9, h10⟩
theorem vx_L.narrow {C n d : String} {A B : Nat → Prop} {U : State} {H : Heap} (h : vx_L C n d A U H) (hAB : ∀ q, B q → A q) : vx_L C n d B U H := by
  obtain ⟨c, k, i, f, a, cell, h1, h2, h3, h4, h5, h6, h7, h8, h9, h10⟩ := h
  exact ⟨c, k, i, f, a, cell, h1, h2, h3, h4, h5, h6, h7, h8, h9, fun z => h10 (hAB _ z)⟩
theorem vx_L.word {C n d : String} {A : Nat → Prop} {s : State} {args : Array Value} (h : vx_L C n d A s s.heap) : (Cond.laysStatic C n d).before args s = true := by
  obtain ⟨c, k, i, f, a, cell, h1, h2, h3, h4, h5, h6, h7, h8, h9, -⟩ := h
  show (Cond.laysStatic C n d).holds args s none s [] = true
  exact Cond.laysStatic_of h1 h2 h3 h4 h5 h6 h7 h8 h9
/-- .. and what it holds: null or some reference -/
def vx_Zq (C n d : String) (A : Nat → Prop) (U : State) (H : Heap) : Prop := va_Zq C n d A U H ∧ vx_L C n d A U H
theorem vx_Zq.moved {C n d : String} {A : Nat → Prop} {u U : State} {H : Heap} (hvm : u.vm.Alike U.vm) (h : vx_Zq C n d A u H) : vx_Zq C n d A U H := ⟨va_Zq.moved hvm h.1, vx_L.moved hvm h.2⟩
theorem vx_Zq.kept {C n d : String} {A : Nat → Prop} {U : State} {H H1 : Heap} (h : vx_Zq C n d A U H) (hq : ∀ a : Nat, a < H.size → ¬ A a → H1[a]? = H[a]?) : vx_Zq C n d A U H1 := ⟨va_Zq.kept h.1 hq, vx_L.kept h.2 hq⟩
theorem vx_Zq.narrow {C n d : String} {A B : Nat → Prop} {U : State} {H : Heap} (h : vx_Zq C n d A U H) (hAB : ∀ q, B q → A q) : vx_Zq C n d B U H := ⟨va_Zq.narrow h.1 hAB, vx_L.narrow h.2 hAB⟩
theorem vx_Zqof {args : Array Value} {s : State} {C n d : String} {A : Nat → Prop} (hl : (Cond.laysStatic C n d).before args s = true) (hini : (Cond.initialized C).before args s = true) (h : (Cond.isRef (.static C n d)).before args s = true) (hA : ∀ a : Nat, a < s.heap.size → ¬ A a) : vx_Zq C n d A s s.heap := by
  refine ⟨va_Zqof hl hini h hA, ?_⟩
  obtain ⟨c, k, i, f, a, cell, h1, h2, h3, h4, h5, h6, h7, h8, h9⟩ := Cond.laysStatic_spec hl
  exact ⟨c, k, i, f, a, cell, h1, h2, h3, h4, h5, h6, h7, h8, h9, hA a (Array.getElem?_eq_some_iff.mp h5).1⟩
theorem vx_isRef {C n d : String} {v : Value} {A : Nat → Prop} {s : State} {args : Array Value} (h : va_Z C n d v A s s.heap) (hv : v.isRef = true) : (Cond.isRef (.static C n d)).before args s = true := by
  obtain ⟨cf, kf, fi, f, a, cell, h1, h2, h3, h4, h5, h6, h7, -⟩ := h
  have he : (Term.static C n d).eval args s none [] s = some v := by
    simp [Term.eval, State.fieldNamed?, h1, h2, h4, h5, h6, h7]
  simp only [Cond.before, Cond.holds, Cond.value, he]
  cases v <;> simp_all [Value.isRef]
theorem vx_isRefq {C n d : String} {A : Nat → Prop} {s : State} {args : Array Value} (h : va_Zq C n d A s s.heap) : (Cond.isRef (.static C n d)).before args s = true := by
  rcases h with h | ⟨t, h⟩
  · exact vx_isRef h rfl
  · exact vx_isRef h rfl
/-- the same frame, seen from here: as if the method were called anew in this heap -/
theorem vx_rebase {T : State} (X : Stand p l e R s m args below meth c T locs cells slots) {R' : Room} (hf : R'.frames ≤ R.frames) (hl : R'.locals ≤ R.locals) (hc : cells + R'.cells ≤ R.cells) (hs : slots + R'.slots ≤ R.slots) :
    Stand p l e R' ((T.setVm s.vm).setFrames (.invoking m args :: below)) m args below meth c T [] 0 0 := by
  have htop : (T.setVm s.vm).topJava?.isSome := X.here.top
  have hF : ((T.setVm s.vm).setFrames (.invoking m args :: below)).frames = .invoking m args :: below := State.frames_setFrames _ (State.cur_lt_of_top htop)
  obtain ⟨g₀, hg0⟩ := Option.isSome_iff_exists.mp htop
  obtain ⟨r, hr⟩ := State.topJava?_eq_some.mp hg0
  have hl9 : e.platform.stackLimits (T.setVm s.vm).me = e.platform.stackLimits s.me := X.limits
  have hb9 : (T.setVm s.vm).me.stackBytes = s.me.stackBytes := X.bytes
  refine ⟨X.admits, X.cas, X.clock, hF, ?_, X.hears, X.method, X.code, X.here, X.tail, X.warmed, ?_, ?_, ?_⟩
  · have h := X.room
    have hU : ((T.setVm s.vm).setFrames (.invoking m args :: below)).localsInUse = s.localsInUse := by
      rw [State.localsInUse_invoking hF (meth := meth) (c := c) X.method X.code, State.localsInUse_invoking X.frames X.method X.code]
    simp only [State.hasRoom, Bool.and_eq_true, decide_eq_true_eq] at h ⊢
    obtain ⟨⟨⟨⟨h1, h2, h3, h4, h5, h6⟩, h7⟩, h8⟩, h9⟩ := h
    rw [X.frames, List.length_cons] at h2 h3
    have q1 := X.heapSize
    have q2 := X.used
    simp only [hF, hU, List.length_cons, State.stackLimits_setFrames, State.stackBytes_setFrames, hl9, hb9]
    refine ⟨⟨⟨⟨by omega, by omega, by omega, by omega, by omega, h6⟩, ?_⟩, ?_⟩, X.book⟩
    · show T.heap.size + R'.cells ≤ e.platform.maxCells
      omega
    · show T.slotsUsed + R'.slots ≤ e.platform.maxSlots
      omega
  · rw [State.stackLimits_setFrames]; rfl
  · rw [State.stackBytes_setFrames]; rfl
  · refine ⟨?_, Nat.le_refl _, Nat.le_refl _, ?_, ?_, fun a c9 h9 => ⟨c9, h9, rfl, rfl, fun _ _ => rfl⟩⟩
    · obtain ⟨t, ht, -⟩ := State.frames_cons hr
      show T.setVm s.vm = { ((T.setVm s.vm).setFrames (.invoking m args :: below)).setFrames (T.setVm s.vm).frames with heap := T.heap, slotsUsed := T.slotsUsed }
      rw [State.setFrames_setFrames, State.setFrames_self ht]
      rfl
    · show T.slotsUsed = T.slotsUsed + ((T.heap.toList.drop T.heap.size).map (·.slots.size)).sum
      rw [List.drop_eq_nil_of_le (Nat.le_of_eq Array.length_toList)]
      rfl
    · show ((T.heap.toList.drop T.heap.size).map (·.slots.size)).sum ≤ 0
      rw [List.drop_eq_nil_of_le (Nat.le_of_eq Array.length_toList)]
      exact Nat.le_refl _
/-- 'throw new E()': new; dup; invokespecial; athrow -/
theorem vx_throw0 {cc : ByteArray} {pc : Nat} (hexec : p.tables.exec = Jvm.exec) (hb : c.code = cc) (hl : l.stackTraces = false) {own cls : String} {names : List String} {ik ic mc ms : Nat} {A : Nat → Prop}
    (hown : s.vm.findClass own = some m.cls) (hcls : Bundle.fit cls = true) (hnames : ∀ n ∈ names, Bundle.fit n = true)
    (hk : (Cond.classLink own ik cls).before args s = true) (hini : (Cond.initialized cls).before args s = true) (hat : ∀ w ∈ vx_at0 own ic cls names, w.before args s = true)
    (hgood : ∀ w ∈ Cond.classLink own ik cls :: Cond.initialized cls :: vx_at0 own ic cls names, vx_ot w = true)
    (hU : vx_Zq Bundle.tN "UNASSIGNED_STACK" Bundle.steD A s s.heap) (hN : vx_Zq Bundle.tN "SUPPRESSED_SENTINEL" Bundle.listD A s s.heap) (hS : va_S A s.heap H locs) (hsize : ls.size = c.maxLocals)
    (d0 : decode cc pc = .ok (.new ik, 3)) (d3 : decode cc (pc + 3) = .ok (.dup, 1)) (d4 : decode cc (pc + 4) = .ok (.invokespecial ic, 3)) (d7 : decode cc (pc + 7) = .ok (.athrow, 1))
    (hout : ∀ x ∈ c.exceptionTable.toList, covers x (pc + 7) = false)
    (hRframes : names.length + 3 < R.frames) (hRlocals : (rest.map fun v => v.category).sum + (13 * (names.length + 1) + 42) ≤ R.locals) (hRcells : cells + 1 ≤ R.cells) (hRslots : slots + 6 ≤ R.slots) (hlocks : meth.locks = false)
    (hx : ∀ t : State, s.vm.Alike t.vm → H.size ≤ t.heap.size → (∀ q : Nat, q < H.size → t.heap[q]? = H[q]?) → XC cls s t)
    (hf : ∀ z ∈ locs, free z.base) (hc : cells + 1 ≤ mc) (hs : slots + 6 ≤ ms) :
    W p l e R s m args below meth c H locs cells slots (vx_MQ below Qc XC args s mc ms free) (F0 m pc ls rest) := by
  intro T hT X
  have htr : e.platform.stackTraces = false := (show e.platform.stackTraces = l.stackTraces by rw [X.admits.platform]).trans hl
  have Y := vx_rebase X (R' := { frames := R.frames, locals := R.locals, cells := 1, slots := 6 }) (Nat.le_refl _) (Nat.le_refl _) hRcells hRslots
  obtain ⟨s', hA⟩ : ∃ z, z = (T.setVm s.vm).setFrames (.invoking m args :: below) := ⟨_, rfl⟩
  rw [← hA] at Y
  have hvm : s'.vm = s.vm := by rw [hA]; rfl
  have hhp : s'.heap = H := by rw [hA]; exact hT
  have hW0 : s.WarmedH s'.vm := by rw [hvm]; exact State.WarmedH.refl s
  have hat' : ∀ w ∈ vx_at0 own ic cls names, w.before args s' = true := fun w hw => vx_ot_at hW0 hvm.symm (hgood w (List.mem_cons_of_mem _ (List.mem_cons_of_mem _ hw))) (hat w hw)
  have hk' : (Cond.classLink own ik cls).before args s' = true := vx_ot_at hW0 hvm.symm (hgood _ List.mem_cons_self) hk
  have hini' : (Cond.initialized cls).before args s' = true := vx_ot_at hW0 hvm.symm (hgood _ (List.mem_cons_of_mem _ List.mem_cons_self)) hini
  have hU' : vx_Zq Bundle.tN "UNASSIGNED_STACK" Bundle.steD A s' s'.heap := by rw [hhp]; exact vx_Zq.moved hW0.alike (hU.kept hS.2.1)
  have hN' : vx_Zq Bundle.tN "SUPPRESSED_SENTINEL" Bundle.listD A s' s'.heap := by rw [hhp]; exact vx_Zq.moved hW0.alike (hN.kept hS.2.1)
  have h : ∀ w ∈ Bundle.ownAtoms0 own ic cls names, w.before args s' = true := vx_own hat' (vx_isRefq hU'.1) (vx_isRefq hN'.1) hU'.2.word hN'.2.word
  have hown' : s'.vm.findClass own = some m.cls := by rw [hvm]; exact hown
  have hins : (Cond.instantiable cls 6).before args s' = true := h _ (by simp [Bundle.ownAtoms0])
  obtain ⟨vm₁, cX, kX, hfX, hkX, -, -, X₁, st1⟩ := Y.newCold hexec (own := own) (C := cls) (index := ik) (n := 6) hown' hk' hins hini'
    (g := F0 m pc ls rest) rfl (by rw [hb]; exact d0) (Nat.le_refl _) (Nat.le_refl _)
  generalize hT1 : (T.setVm vm₁).pushCell { cls := cX, slots := kX.instanceTypes.map defaultValue, vm := .none } = T1 at X₁ st1
  have hcat : (Value.ref T.heap.size).category = 1 := rfl
  have hcellA : T1.heap[T.heap.size]? = some (freshCell cX kX) := by rw [← hT1]; exact State.heap_pushCell_size _ _
  have d3' : decode c.code (pc + 3) = .ok (.dup, 1) := by rw [hb]; exact d3
  obtain ⟨U, hsteps, hrun, hend, hW, hsame, ce, hce, hO⟩ := X₁.ctorThrow0 hexec htr (own := own) (cls := cls) (names := names) (ic := ic) hown' hcls hnames h (fun x hx => nomatch hx) hfX hkX hcellA (by rw [hhp, hT]; exact Nat.le_refl _)
    (g := { method := m, pc := pc + 4, locals := ls, stack := .ref T.heap.size :: .ref T.heap.size :: rest, locked := none }) rfl hsize rfl rfl (rest := rest) rfl
    (by rw [hb]; exact d4) (by rw [hb]; exact d7) hout hRframes (by simp only [List.map_cons, List.sum_cons, hcat]; omega) hlocks
  obtain ⟨f1, f2⟩ := vx_frame hsame
  rw [hhp] at f1 f2
  have hWs : s.WarmedH U.vm := State.WarmedH.trans hW0 hW
  have hcl : s.vm.findClass cls = some ce.cls := by
    have h9 := hO.cls
    rw [hvm] at h9
    exact h9
  have hall : s.sameButNew ({ U with vm := s.vm } : State) locs mc ms := by
    subst hA
    obtain ⟨e1, e2⟩ := hsame
    rw [State.setFrames_setFrames] at e1
    have h2 : (T.setVm s.vm).sameButNew ({ U with vm := s.vm } : State) [] (0 + 1) (0 + 6) := ⟨e1, e2⟩
    have h3 := X.same.trans h2
    rw [List.append_nil] at h3
    exact h3.mono hc hs
  refine ⟨U, ?_, .threw T.heap.size, hrun, hend, Or.inr ⟨T.heap.size, rfl, cls, ce, locs, hx U hWs.alike f1 (fun q hq => f2 q hq (fun z hz => nomatch hz)), hce, hO.vm, hcl, hWs, hall, hf⟩⟩
  refine st1 _ ?_
  show Steps p.tables e below (T1.setTop { method := m, pc := pc + 3, locals := ls, stack := .ref T.heap.size :: rest, locked := none }) _
  jvm_step X₁.here [X₁.here.top, hexec, d3', Value.category]
  exact hsteps
/-- 'throw new E("text")': new; dup; ldc; invokespecial; athrow -/
theorem vx_throwS {cc : ByteArray} {pc : Nat} (hexec : p.tables.exec = Jvm.exec) (hb : c.code = cc) (hl : l.stackTraces = false) {own cls text : String} {names : List String} {ik is ic mc ms sa : Nat} {A : Nat → Prop}
    (hown : s.vm.findClass own = some m.cls) (hcls : Bundle.fit cls = true) (hnames : ∀ n ∈ names, Bundle.fit n = true)
    (hk : (Cond.classLink own ik cls).before args s = true) (hini : (Cond.initialized cls).before args s = true) (hstr : vk_R own is text sa s) (hat : ∀ w ∈ vx_atS own ic cls names, w.before args s = true)
    (hgood : ∀ w ∈ Cond.classLink own ik cls :: Cond.initialized cls :: vx_atS own ic cls names, vx_ot w = true)
    (hU : vx_Zq Bundle.tN "UNASSIGNED_STACK" Bundle.steD A s s.heap) (hN : vx_Zq Bundle.tN "SUPPRESSED_SENTINEL" Bundle.listD A s s.heap) (hS : va_S A s.heap H locs) (hsize : ls.size = c.maxLocals)
    (d0 : decode cc pc = .ok (.new ik, 3)) (d3 : decode cc (pc + 3) = .ok (.dup, 1)) (d4 : decode cc (pc + 4) = .ok (.ldc is, 2)) (d6 : decode cc (pc + 6) = .ok (.invokespecial ic, 3)) (d9 : decode cc (pc + 9) = .ok (.athrow, 1))
    (hout : ∀ x ∈ c.exceptionTable.toList, covers x (pc + 9) = false)
    (hRframes : names.length + 3 < R.frames) (hRlocals : (rest.map fun v => v.category).sum + (13 * (names.length + 1) + 43) ≤ R.locals) (hRcells : cells + 1 ≤ R.cells) (hRslots : slots + 6 ≤ R.slots) (hlocks : meth.locks = false)
    (hx : ∀ t : State, s.vm.Alike t.vm → H.size ≤ t.heap.size → (∀ q : Nat, q < H.size → t.heap[q]? = H[q]?) → XC cls s t)
    (hf : ∀ z ∈ locs, free z.base) (hc : cells + 1 ≤ mc) (hs : slots + 6 ≤ ms) :
    W p l e R s m args below meth c H locs cells slots (vx_MQ below Qc XC args s mc ms free) (F0 m pc ls rest) := by
  intro T hT X
  have htr : e.platform.stackTraces = false := (show e.platform.stackTraces = l.stackTraces by rw [X.admits.platform]).trans hl
  have Y := vx_rebase X (R' := { frames := R.frames, locals := R.locals, cells := 1, slots := 6 }) (Nat.le_refl _) (Nat.le_refl _) hRcells hRslots
  obtain ⟨s', hA⟩ : ∃ z, z = (T.setVm s.vm).setFrames (.invoking m args :: below) := ⟨_, rfl⟩
  rw [← hA] at Y
  have hvm : s'.vm = s.vm := by rw [hA]; rfl
  have hhp : s'.heap = H := by rw [hA]; exact hT
  have hW0 : s.WarmedH s'.vm := by rw [hvm]; exact State.WarmedH.refl s
  have hat' : ∀ w ∈ vx_atS own ic cls names, w.before args s' = true := fun w hw => vx_ot_at hW0 hvm.symm (hgood w (List.mem_cons_of_mem _ (List.mem_cons_of_mem _ hw))) (hat w hw)
  have hk' : (Cond.classLink own ik cls).before args s' = true := vx_ot_at hW0 hvm.symm (hgood _ List.mem_cons_self) hk
  have hini' : (Cond.initialized cls).before args s' = true := vx_ot_at hW0 hvm.symm (hgood _ (List.mem_cons_of_mem _ List.mem_cons_self)) hini
  have hU' : vx_Zq Bundle.tN "UNASSIGNED_STACK" Bundle.steD A s' s'.heap := by rw [hhp]; exact vx_Zq.moved hW0.alike (hU.kept hS.2.1)
  have hN' : vx_Zq Bundle.tN "SUPPRESSED_SENTINEL" Bundle.listD A s' s'.heap := by rw [hhp]; exact vx_Zq.moved hW0.alike (hN.kept hS.2.1)
  have h : ∀ w ∈ Bundle.ownAtoms own ic cls names, w.before args s' = true := vx_own hat' (vx_isRefq hU'.1) (vx_isRefq hN'.1) hU'.2.word hN'.2.word
  have hown' : s'.vm.findClass own = some m.cls := by rw [hvm]; exact hown
  have hins : (Cond.instantiable cls 6).before args s' = true := h _ (by simp [Bundle.ownAtoms])
  obtain ⟨vm₁, cX, kX, hfX, hkX, -, -, X₁, st1⟩ := Y.newCold hexec (own := own) (C := cls) (index := ik) (n := 6) hown' hk' hins hini'
    (g := F0 m pc ls rest) rfl (by rw [hb]; exact d0) (Nat.le_refl _) (Nat.le_refl _)
  generalize hT1 : (T.setVm vm₁).pushCell { cls := cX, slots := kX.instanceTypes.map defaultValue, vm := .none } = T1 at X₁ st1
  have hcat : (Value.ref T.heap.size).category = 1 := rfl
  have hcellA : T1.heap[T.heap.size]? = some (freshCell cX kX) := by rw [← hT1]; exact State.heap_pushCell_size _ _
  have d3' : decode c.code (pc + 3) = .ok (.dup, 1) := by rw [hb]; exact d3
  have d4' : decode c.code (pc + 4) = .ok (.ldc is, 2) := by rw [hb]; exact d4
  have hstr' : vk_R own is text sa s' := vk_R.warm hW0 hstr
  obtain ⟨U, hsteps, hrun, hend, hW, hsame, ce, hce, hO⟩ := X₁.ctorThrowS hexec htr (own := own) (cls := cls) (names := names) (ic := ic) hown' hcls hnames h (fun x hx => nomatch hx) hfX hkX hcellA (by rw [hhp, hT]; exact Nat.le_refl _) (msg := .ref sa) rfl
    (g := { method := m, pc := pc + 6, locals := ls, stack := .ref sa :: .ref T.heap.size :: .ref T.heap.size :: rest, locked := none }) rfl hsize rfl rfl (rest := rest) rfl
    (by rw [hb]; exact d6) (by rw [hb]; exact d9) hout hRframes (by simp only [List.map_cons, List.sum_cons, hcat]; omega) hlocks
  obtain ⟨f1, f2⟩ := vx_frame hsame
  rw [hhp] at f1 f2
  have hWs : s.WarmedH U.vm := State.WarmedH.trans hW0 hW
  have hcl : s.vm.findClass cls = some ce.cls := by
    have h9 := hO.cls
    rw [hvm] at h9
    exact h9
  have hall : s.sameButNew ({ U with vm := s.vm } : State) locs mc ms := by
    subst hA
    obtain ⟨e1, e2⟩ := hsame
    rw [State.setFrames_setFrames] at e1
    have h2 : (T.setVm s.vm).sameButNew ({ U with vm := s.vm } : State) [] (0 + 1) (0 + 6) := ⟨e1, e2⟩
    have h3 := X.same.trans h2
    rw [List.append_nil] at h3
    exact h3.mono hc hs
  refine ⟨U, ?_, .threw T.heap.size, hrun, hend, Or.inr ⟨T.heap.size, rfl, cls, ce, locs, hx U hWs.alike f1 (fun q hq => f2 q hq (fun z hz => nomatch hz)), hce, hO.vm, hcl, hWs, hall, hf⟩⟩
  refine st1 _ ?_
  show Steps p.tables e below (T1.setTop { method := m, pc := pc + 3, locals := ls, stack := .ref T.heap.size :: rest, locked := none }) _
  jvm_step X₁.here [X₁.here.top, hexec, d3', Value.category]
  exact X₁.ldcString hexec (own := own) (text := text) (index := is) (a := sa) hown' hstr'.1 hstr'.2
    (g := { method := m, pc := pc + 4, locals := ls, stack := .ref T.heap.size :: .ref T.heap.size :: rest, locked := none }) rfl d4' _ hsteps
/-- 'throw new E("text")', the text by a wide index -/
theorem vx_throwSW {cc : ByteArray} {pc : Nat} (hexec : p.tables.exec = Jvm.exec) (hb : c.code = cc) (hl : l.stackTraces = false) {own cls text : String} {names : List String} {ik is ic mc ms sa : Nat} {A : Nat → Prop}
    (hown : s.vm.findClass own = some m.cls) (hcls : Bundle.fit cls = true) (hnames : ∀ n ∈ names, Bundle.fit n = true)
    (hk : (Cond.classLink own ik cls).before args s = true) (hini : (Cond.initialized cls).before args s = true) (hstr : vk_R own is text sa s) (hat : ∀ w ∈ vx_atS own ic cls names, w.before args s = true)
    (hgood : ∀ w ∈ Cond.classLink own ik cls :: Cond.initialized cls :: vx_atS own ic cls names, vx_ot w = true)
    (hU : vx_Zq Bundle.tN "UNASSIGNED_STACK" Bundle.steD A s s.heap) (hN : vx_Zq Bundle.tN "SUPPRESSED_SENTINEL" Bundle.listD A s s.heap) (hS : va_S A s.heap H locs) (hsize : ls.size = c.maxLocals)
    (d0 : decode cc pc = .ok (.new ik, 3)) (d3 : decode cc (pc + 3) = .ok (.dup, 1)) (d4 : decode cc (pc + 4) = .ok (.ldc_w is, 3)) (d7 : decode cc (pc + 7) = .ok (.invokespecial ic, 3)) (d10 : decode cc (pc + 10) = .ok (.athrow, 1))
    (hout : ∀ x ∈ c.exceptionTable.toList, covers x (pc + 10) = false)
    (hRframes : names.length + 3 < R.frames) (hRlocals : (rest.map fun v => v.category).sum + (13 * (names.length + 1) + 43) ≤ R.locals) (hRcells : cells + 1 ≤ R.cells) (hRslots : slots + 6 ≤ R.slots) (hlocks : meth.locks = false)
    (hx : ∀ t : State, s.vm.Alike t.vm → H.size ≤ t.heap.size → (∀ q : Nat, q < H.size → t.heap[q]? = H[q]?) → XC cls s t)
    (hf : ∀ z ∈ locs, free z.base) (hc : cells + 1 ≤ mc) (hs : slots + 6 ≤ ms) :
    W p l e R s m args below meth c H locs cells slots (vx_MQ below Qc XC args s mc ms free) (F0 m pc ls rest) := by
  intro T hT X
  have htr : e.platform.stackTraces = false := (show e.platform.stackTraces = l.stackTraces by rw [X.admits.platform]).trans hl
  have Y := vx_rebase X (R' := { frames := R.frames, locals := R.locals, cells := 1, slots := 6 }) (Nat.le_refl _) (Nat.le_refl _) hRcells hRslots
  obtain ⟨s', hA⟩ : ∃ z, z = (T.setVm s.vm).setFrames (.invoking m args :: below) := ⟨_, rfl⟩
  rw [← hA] at Y
  have hvm : s'.vm = s.vm := by rw [hA]; rfl
  have hhp : s'.heap = H := by rw [hA]; exact hT
  have hW0 : s.WarmedH s'.vm := by rw [hvm]; exact State.WarmedH.refl s
  have hat' : ∀ w ∈ vx_atS own ic cls names, w.before args s' = true := fun w hw => vx_ot_at hW0 hvm.symm (hgood w (List.mem_cons_of_mem _ (List.mem_cons_of_mem _ hw))) (hat w hw)
  have hk' : (Cond.classLink own ik cls).before args s' = true := vx_ot_at hW0 hvm.symm (hgood _ List.mem_cons_self) hk
  have hini' : (Cond.initialized cls).before args s' = true := vx_ot_at hW0 hvm.symm (hgood _ (List.mem_cons_of_mem _ List.mem_cons_self)) hini
  have hU' : vx_Zq Bundle.tN "UNASSIGNED_STACK" Bundle.steD A s' s'.heap := by rw [hhp]; exact vx_Zq.moved hW0.alike (hU.kept hS.2.1)
  have hN' : vx_Zq Bundle.tN "SUPPRESSED_SENTINEL" Bundle.listD A s' s'.heap := by rw [hhp]; exact vx_Zq.moved hW0.alike (hN.kept hS.2.1)
  have h : ∀ w ∈ Bundle.ownAtoms own ic cls names, w.before args s' = true := vx_own hat' (vx_isRefq hU'.1) (vx_isRefq hN'.1) hU'.2.word hN'.2.word
  have hown' : s'.vm.findClass own = some m.cls := by rw [hvm]; exact hown
  have hins : (Cond.instantiable cls 6).before args s' = true := h _ (by simp [Bundle.ownAtoms])
  obtain ⟨vm₁, cX, kX, hfX, hkX, -, -, X₁, st1⟩ := Y.newCold hexec (own := own) (C := cls) (index := ik) (n := 6) hown' hk' hins hini'
    (g := F0 m pc ls rest) rfl (by rw [hb]; exact d0) (Nat.le_refl _) (Nat.le_refl _)
  generalize hT1 : (T.setVm vm₁).pushCell { cls := cX, slots := kX.instanceTypes.map defaultValue, vm := .none } = T1 at X₁ st1
  have hcat : (Value.ref T.heap.size).category = 1 := rfl
  have hcellA : T1.heap[T.heap.size]? = some (freshCell cX kX) := by rw [← hT1]; exact State.heap_pushCell_size _ _
  have d3' : decode c.code (pc + 3) = .ok (.dup, 1) := by rw [hb]; exact d3
  have d4' : decode c.code (pc + 4) = .ok (.ldc_w is, 3) := by rw [hb]; exact d4
  have hstr' : vk_R own is text sa s' := vk_R.warm hW0 hstr
  obtain ⟨U, hsteps, hrun, hend, hW, hsame, ce, hce, hO⟩ := X₁.ctorThrowS hexec htr (own := own) (cls := cls) (names := names) (ic := ic) hown' hcls hnames h (fun x hx => nomatch hx) hfX hkX hcellA (by rw [hhp, hT]; exact Nat.le_refl _) (msg := .ref sa) rfl
    (g := { method := m, pc := pc + 7, locals := ls, stack := .ref sa :: .ref T.heap.size :: .ref T.heap.size :: rest, locked := none }) rfl hsize rfl rfl (rest := rest) rfl
    (by rw [hb]; exact d7) (by rw [hb]; exact d10) hout hRframes (by simp only [List.map_cons, List.sum_cons, hcat]; omega) hlocks
  obtain ⟨f1, f2⟩ := vx_frame hsame
  rw [hhp] at f1 f2
  have hWs : s.WarmedH U.vm := State.WarmedH.trans hW0 hW
  have hcl : s.vm.findClass cls = some ce.cls := by
    have h9 := hO.cls
    rw [hvm] at h9
    exact h9
  have hall : s.sameButNew ({ U with vm := s.vm } : State) locs mc ms := by
    subst hA
    obtain ⟨e1, e2⟩ := hsame
    rw [State.setFrames_setFrames] at e1
    have h2 : (T.setVm s.vm).sameButNew ({ U with vm := s.vm } : State) [] (0 + 1) (0 + 6) := ⟨e1, e2⟩
    have h3 := X.same.trans h2
    rw [List.append_nil] at h3
    exact h3.mono hc hs
  refine ⟨U, ?_, .threw T.heap.size, hrun, hend, Or.inr ⟨T.heap.size, rfl, cls, ce, locs, hx U hWs.alike f1 (fun q hq => f2 q hq (fun z hz => nomatch hz)), hce, hO.vm, hcl, hWs, hall, hf⟩⟩
  refine st1 _ ?_
  show Steps p.tables e below (T1.setTop { method := m, pc := pc + 3, locals := ls, stack := .ref T.heap.size :: rest, locked := none }) _
  jvm_step X₁.here [X₁.here.top, hexec, d3', Value.category]
  exact X₁.ldcStringW hexec (own := own) (text := text) (index := is) (a := sa) hown' hstr'.1 hstr'.2
    (g := { method := m, pc := pc + 4, locals := ls, stack := .ref T.heap.size :: .ref T.heap.size :: rest, locked := none }) rfl d4' _ hsteps
end Ends
section Bodies
variable {l : Launch}
theorem vx_ofW {y : MethodName} {ws ws' : List Cond} {rm : Room} {Pc : Array Value → State → Prop} {Qc : Array Value → State → Outcome → State → Prop} {XC : String → State → State → Prop} {mc ms : Nat} {free : Addr → Prop} {cc : ByteArray} {maxL : Nat} {ret : Option FieldType}
    (hy : plainName y.cls = true) (hw : ws = Cond.code y cc maxL ret :: ws')
    (body : ∀ p e s m args below meth c s₁, BodyLoose p l y (headSpec ws rm) cc maxL ret e s m args below meth c s₁ → c.maxLocals = maxL → (∀ x ∈ c.exceptionTable.toList, False) → Pc args s →
      W p l e (headSpec ws rm).room s m args below meth c s.heap [] 0 0 (vx_MQ below Qc XC args s mc ms free) (entryFrame m args maxL)) : vx_Met l y ws rm Pc Qc XC mc ms free := by
  refine MetFree.of_bodyS (code := cc) (maxLocals := maxL) (ret := ret) hy ?_ ?_
  · intro args s m h hn
    obtain ⟨meth, c, h1, h2, h3, h4, h5, h6, -, -⟩ := Cond.code_spec hn (atoms_spec (ws := ws) h _ (by rw [hw]; exact List.mem_cons_self))
    exact ⟨meth, c, h1, h2, h3, h4, h5, h6⟩
  · intro p e s m args below meth c s₁ B hml hP _
    have hh0 : s₁.heap = s.heap := by rw [B.state]; rfl
    have ht : ∀ x ∈ c.exceptionTable.toList, False := by
      obtain ⟨meth9, c9, h1, h2, -, -, -, -, h7, -⟩ := Cond.code_spec B.named (atoms_spec (ws := ws) B.pre _ (by rw [hw]; exact List.mem_cons_self))
      cases Option.some.inj (h1.symm.trans B.method)
      cases Option.some.inj (h2.symm.trans (Stand.of_body B).code)
      intro x hx
      rw [Array.isEmpty_iff.mp h7] at hx
      cases hx
    obtain ⟨t, a1, o, b1, b2, b3⟩ := body p e s m args below meth c s₁ B hml ht hP s₁ hh0 (Stand.of_body B)
    exact ⟨t, o, a1, b1, b2, b3⟩
/-- the table of a body with handlers -/
theorem vx_table {p : Program} {x y : MethodName} {S : Spec} {cc bytes : ByteArray} {maxL maxL' : Nat} {ret ret' : Option FieldType} {e : Env} {s s₁ : State} {m : MethodId} {args : Array Value} {below : List Frame} {meth : Method} {c : Code} {hh : List (Nat × Nat × Nat × Nat)}
    (B : BodyLoose p l y S cc maxL ret e s m args below meth c s₁) (h : (Cond.codeWith y bytes maxL' ret' hh).before args s = true) : c.exceptionTable.toList = tableOf hh := by
  obtain ⟨m9, meth9, c9, hn9, h1, h2, -, -, h6, -⟩ := Cond.codeWith_spec h
  cases Option.some.inj (hn9.symm.trans B.named)
  cases Option.some.inj (h1.symm.trans B.method)
  cases Option.some.inj (h2.symm.trans (Stand.of_body B).code)
  rw [← h6, table_eq]
end Bodies
end VXA
/-! ===== END ===== -/
/-! ===== BEGIN a static call of a method with an exception table ===== -/
section VXS
variable {p : Program} {l : Launch} {e : Env} {R : Room} {s : State} {m : MethodId} {args : Array Value} {below : List Frame} {meth : Method} {c : Code} {T : State} {H : Heap} {locs : List Loc} {cells slots : Nat}
abbrev vx_CSW (R : Room) (s : State) (args : Array Value) (own : String) (index : Nat) (y : MethodName) (bytes : ByteArray) (maxL : Nat) (ret : Option FieldType) (hh : List (Nat × Nat × Nat × Nat)) (ws : List Cond) (rm : Room) (mc ms n : Nat) : Prop :=
  (rm.cells = mc ∧ rm.slots = ms ∧ rm.frames + 1 ≤ R.frames ∧ 8 + (maxL + 11) + rm.locals ≤ R.locals ∧ (∀ w ∈ ws, ∀ (a' : Array Value) (U : State), s.WarmedH U.vm → w.before a' U = true) ∧ Cond.codeWith y bytes maxL ret hh ∈ ws) ∧
  (Cond.codeWith y bytes maxL ret hh).before args s = true ∧ (Cond.initialized y.cls).before args s = true ∧ (y.cls ≠ "java/lang/invoke/MethodHandle" ∧ y.cls ≠ "java/lang/invoke/VarHandle") ∧
  (∀ sig, parseMethodDescriptor y.desc = some sig → n = sig.parameters.length) ∧ (Cond.methodLink own index y).before args s = true ∧ (Cond.static y).before args s = true
theorem vx_cwSW {own : String} {index maxL mc ms : Nat} {y : MethodName} {bytes : ByteArray} {ret : Option FieldType} {hh : List (Nat × Nat × Nat × Nat)} {Ts ws ws' : List Cond} {rm : Room} (n : Nat) (ht : ∀ w ∈ Ts, w.before args s = true) (hT : GoodIn Ts (va_wsS own index y ws)) (hw : ws = Cond.codeWith y bytes maxL ret hh :: ws') (hrc : rm.cells = mc) (hrs : rm.slots = ms)
    (hd : y.cls ≠ "java/lang/invoke/MethodHandle" ∧ y.cls ≠ "java/lang/invoke/VarHandle" ∧ (parseMethodDescriptor y.desc).map (fun d => d.parameters.length) = some n) (hR : rm.frames + 1 ≤ R.frames ∧ 8 + (maxL + 11) + rm.locals ≤ R.locals) :
    vx_CSW R s args own index y bytes maxL ret hh ws rm mc ms n := by
  have ok : ∀ w ∈ va_wsS own index y ws, w.before args s = true := fun w h => ht w (hT w h).1
  have hG : GoodIn Ts ws := fun w h => hT w (by unfold va_wsS; exact List.mem_append_right _ h)
  have hc : Cond.codeWith y bytes maxL ret hh ∈ ws := by rw [hw]; exact List.mem_cons_self
  refine ⟨⟨hrc, hrs, hR.1, hR.2, pay_in ht hG, hc⟩, ht _ (hG _ hc).1, ok _ (by simp [va_wsS]), ⟨hd.1, hd.2.1⟩, fun sig h => ?_, ok _ (by simp [va_wsS]), ok _ (by simp [va_wsS])⟩
  have h2 := hd.2.2
  rw [h] at h2
  exact (Option.some.inj h2).symm
theorem vx_callSW (X : Stand p l e R s m args below meth c T locs cells slots) (hexec : p.tables.exec = Jvm.exec) {own : String} {index : Nat} {y : MethodName} {bytes : ByteArray} {maxL : Nat} {ret : Option FieldType} {hh : List (Nat × Nat × Nat × Nat)}
    (hown : s.vm.findClass own = some m.cls) (hlink : (Cond.methodLink own index y).before args s = true) (hstat : (Cond.static y).before args s = true) (hinit : (Cond.initialized y.cls).before args s = true)
    (hcode : (Cond.codeWith y bytes maxL ret hh).before args s = true) (hy : y.cls ≠ "java/lang/invoke/MethodHandle" ∧ y.cls ≠ "java/lang/invoke/VarHandle")
    {W9 : Nat} {Pre : Pt → Array Value → Prop} {Post : Pt → Array Value → Option Value → Pt → Prop} (hK : Back l R p e below s args y 3 W9 Pre Post)
    {g : JFrame} (hg : g.method = m) (hsize : g.locals.size = c.maxLocals) {argsL rest : List Value} (hlen : ∀ sig, parseMethodDescriptor y.desc = some sig → argsL.length = sig.parameters.length)
    (hstack : g.stack = argsL.reverse ++ rest) (hW : 2 * g.monitorRoom + (rest.map fun v => v.category).sum ≤ W9) (hdg : decode c.code g.pc = .ok (.invokestatic index, 3))
    (hpre : ∀ vm₁, s.WarmedH vm₁ → Pre ⟨T.setVm vm₁, locs, cells, slots⟩ argsL.toArray) :
    ∃ (v : Option Value) (vm₁ : Vm) (B : Pt), s.WarmedH vm₁ ∧ Stand p l e R s m args below meth c B.U B.locs B.cells B.slots ∧ Post ⟨T.setVm vm₁, locs, cells, slots⟩ argsL.toArray v B ∧
      ∀ target, Steps p.tables e below (B.U.setTop { g with pc := g.pc + 3, stack := v.toList ++ rest }) target → Steps p.tables e below (T.setTop g) target := by
  obtain ⟨mk, methM, cM, hnamed, hmethM, -, -, -, -, -, -, hsigM⟩ := Cond.codeWith_spec hcode
  have hstatic : methM.isStatic = true := Cond.static_spec hnamed hmethM hstat
  obtain ⟨kP, hkP, -⟩ := className_of_methodNamed hnamed
  have hinitP : kP.init = .initialized := Cond.initialized_spec (findClass_of_methodNamed hnamed) hkP hinit
  obtain ⟨vm₁, X₁, hstep₁⟩ := X.invokestatic hexec hown hlink hnamed hmethM hstatic hkP hinitP hy (g := g) hg (argsL := argsL) (rest := rest) (hlen _ hsigM) hstack hdg
  obtain ⟨v, B, X', hpost, hsteps⟩ := hK m meth c ⟨T.setVm vm₁, locs, cells, slots⟩ { g with stack := rest } (.invokestatic index) mk argsL.toArray X₁ hg hsize hdg hW (X₁.named hnamed) (hpre vm₁ X₁.warmed)
  exact ⟨v, vm₁, B, X₁.warmed, X', hpost, fun target h => hstep₁ _ fun acts => by rw [doInvoke_state]; exact hsteps.trans h⟩
theorem vx_runSW {y : MethodName} {bytes cc : ByteArray} {maxL nL mc ms n index : Nat} {ret : Option FieldType} {hh : List (Nat × Nat × Nat × Nat)} {ws : List Cond} {rm : Room} {Pc : Array Value → State → Prop} {Qc : Array Value → State → Outcome → State → Prop} {free : Addr → Prop} {Ts : List Cond} {own : String} {As rest : List Value} {g : JFrame}
    (S : CallFix p m c cc nL s args Ts own) (hM : Met l y ws rm Pc Qc mc ms free) (cw : vx_CSW R s args own index y bytes maxL ret hh ws rm mc ms n) (hp : PreS s H Pc As)
    (hg : g.method = m) (hn : As.length = n) (hsize : g.locals.size = nL) (hstack : g.stack = As.reverse ++ rest) (hW : 2 * g.monitorRoom + (rest.map fun v => v.category).sum ≤ 8) (hdg : decode cc g.pc = .ok (.invokestatic index, 3)) (hf : cells + mc ≤ R.cells ∧ slots + ms ≤ R.slots) :
    va_Run p l e R s m args below meth c H locs cells slots mc ms g rest (Qc As.toArray) (free) := by
  obtain ⟨⟨hrc, hrs, hfr, hlo, hws, hcw⟩, hcode, hini, hy, hlen, hl, hstt⟩ := cw
  have hK : Back l R p e below s args y 3 8 (PreOf R mc ms Pc) (PostOf Qc mc ms free) := va_backW (hh := hh) (bytes := bytes) (maxL := maxL) (ret := ret) hM hp.1 hrc hrs hfr hlo hws hcw (fun a' U hW => word_at hW (Or.inl (by first | rfl | simp [Cond.onTables, Cond.keeps, Cond.steady])) hini)
  obtain ⟨hx, hb, hml, ho, -⟩ := S
  intro T hT X
  obtain ⟨v, vm₁, ⟨U', l2, c2, s2⟩, hW₁, X', ⟨g', mk, t, L, e1, e2, hq, h1, hL, h2, h3⟩, st⟩ := vx_callSW X hx (hh := hh) (bytes := bytes) (maxL := maxL) (ret := ret) ho hl hstt hini hcode hy hK hg (hsize.trans hml.symm) (argsL := As) (rest := rest) (fun sig h => hn.trans (hlen sig h)) hstack hW (by rw [hb]; exact hdg)
    (fun vm₁ hW₁ => ⟨hf.1, hf.2, hp.2 (T.setVm vm₁) hT hW₁⟩)
  dsimp only [Pt.U, Pt.locs, Pt.cells, Pt.slots] at X' e1 e2 h1 h2 h3 st
  subst h1; subst h2; subst h3
  exact ⟨v, (T.setVm vm₁).calling g' mk As.toArray, t, U', L, hT, X', hL, e1, e2, hq, st⟩
/-- not caught here, past rows that name other classes: it goes on to the caller -/
theorem vx_outP {p : Program} {l : Launch} {e : Env} {R : Room} {s : State} {m : MethodId} {args : Array Value} {below : List Frame} {meth : Method} {c : Code} {H : Heap} {locs : List Loc} {cells slots : Nat} {free : Addr → Prop} {ls : Array Slot} {rest : List Value} {Qc : Array Value → State → Outcome → State → Prop} {XC : String → State → State → Prop}
    {pc : Nat} {own E : String} {ce : Cell} {q : Addr} {mc ms : Nat} (hown : s.vm.findClass own = some m.cls) (hlocks : meth.locks = false)
    (hpass : ∀ z ∈ c.exceptionTable.toList, covers z pc = false ∨ (z.catchType ≠ 0 ∧ ∃ nm : String, (Cond.classLink own z.catchType nm).before args s = true ∧ va_Nc E nm s)) (hcell : H[q]? = some ce) (hv : ce.vm = .none) (hcl : s.vm.findClass E = some ce.cls)
    (hx : ∀ t : State, t.heap = H → s.vm.Alike t.vm → XC E s t) (hf : ∀ z ∈ locs, free z.base) (hc : cells ≤ mc) (hs : slots ≤ ms) :
    vx_W p l e R s m args below meth c H locs cells slots (vx_MQ below Qc XC args s mc ms free) (F0 m pc ls rest) q := by
  intro T hT X
  have hpl : e.platform.magicAccessors = ({} : Platform).magicAccessors := by rw [X.admits.platform]
  obtain ⟨vm', hW', X', st⟩ := X.outThrough hlocks q (g := F0 m pc ls rest) rfl rfl rfl (cell := ce) (by rw [hT]; exact hcell) (by rw [hv]; rfl)
    (by obtain ⟨k9, h9, -⟩ := Vm.findClass_spec hcl; exact ⟨k9, h9⟩) (fun z hz => by
      rcases hpass z hz with h | ⟨hz0, nm, hl1, hn1⟩
      · exact Or.inl h
      · obtain ⟨c6, hc6, hcl6⟩ := Cond.classLink_spec hown hl1 e.platform hpl
        obtain ⟨a8, b8, h1, h2, h3⟩ := hn1
        cases Option.some.inj (h1.symm.trans hcl)
        cases Option.some.inj (h2.symm.trans hc6)
        exact Or.inr ⟨hz0, _, hcl6, h3⟩)
  obtain ⟨g₀, hfr⟩ := X'.frames_eq
  have hcell9 : ((T.setVm vm').setFrames (.throwing q :: below)).heap[q]? = some ce := by
    show T.heap[q]? = some ce
    rw [hT]; exact hcell
  have hend : Ended ((T.setVm vm').setFrames (.throwing q :: below)) below (.threw q) := State.frames_setFrames _ (State.cur_lt_of_frames hfr)
  refine ⟨(T.setVm vm').setFrames (.throwing q :: below), ?_, .threw q, X'.here.running, hend, Or.inr ⟨q, rfl, E, ce, locs, hx _ hT (X'.ends _).1.alike, hcell9, hv, hcl, (X'.ends _).1, (X'.ends _).2.mono hc hs, hf⟩⟩
  rw [X.pushThrowing_eq]
  exact st
/-- a thing of a world lies in the heap -/
theorem vx_lt {D : va_G} {cl : List vw_C} {ws : va_W} {H1 : Heap} (h : va_P D cl ws H1) {k : Nat} {q : Nat × va_E} (hk : ws[k]? = some q) : q.1 < H1.size := (h k q hk).lt
end VXS
/-! ===== END ===== -/
/-! ===== BEGIN methods with a table of their own: called by a name, returning or throwing ===== -/
section VXH
/-! vx_backW, vx_callVX, vx_callSX, vx_callVW, vx_runVW, vx_runVX, vx_runSX, vx_ofWH follow the same proofs as their sisters above (Free/Laws.lean, Shelf42/LK1.lean); vx_outP calls Shelf42/NT130.lean (outThrough). -/
section
variable {l : Launch} {R : Room} {p : Program} {e : Env} {below : List Frame} {s : State} {sargs : Array Value} {y : MethodName} {len W9 : Nat}
theorem vx_backW {ws : List Cond} {rm : Room} {Pc : Array Value → State → Prop} {Qc : Array Value → State → Outcome → State → Prop} {XC : String → State → State → Prop} {mc ms : Nat} {free : Addr → Prop} {bytes : ByteArray} {maxL : Nat} {ret : Option FieldType} {hh : List (Nat × Nat × Nat × Nat)}
    (hM : vx_Met l y ws rm Pc Qc XC mc ms free) (hblind : FrameBlind Pc) (hrc : rm.cells = mc) (hrs : rm.slots = ms)
    (hframes : rm.frames + 1 ≤ R.frames) (hlocals : W9 + (maxL + 11) + rm.locals ≤ R.locals)
    (hws : ∀ w ∈ ws, ∀ a' U, s.WarmedH U.vm → w.before a' U = true) (hcode : Cond.codeWith y bytes maxL ret hh ∈ ws) (hinit : ∀ a' U, s.WarmedH U.vm → (Cond.initialized y.cls).before a' U = true) :
    vx_Back l R p e below s sargs y len W9 (PreOf R mc ms Pc) (PostOf Qc mc ms free) (vx_Post XC mc ms free) := by
  intro m meth c A g ig mk a X hg hsize hdg hW hn hp
  have h1 : (headSpec ws rm).pre.before a A.U = true := atoms_intro fun w hw => hws w hw _ _ X.warmed
  have h2 : (Cond.codeWith y bytes maxL ret hh).before a A.U = true := hws _ hcode _ _ X.warmed
  have h3 : (Cond.initialized y.cls).before a A.U = true := hinit _ _ X.warmed
  have h4 : A.cells + (headSpec ws rm).room.cells ≤ R.cells := by rw [show (headSpec ws rm).room.cells = mc from hrc]; exact hp.1
  have h5 : A.slots + (headSpec ws rm).room.slots ≤ R.slots := by rw [show (headSpec ws rm).room.slots = ms from hrs]; exact hp.2.1
  have hPc : Pc a (A.U.calling g mk a) := hblind _ _ _ _ hp.2.2
  obtain ⟨U, Ls, c0, s0⟩ := A
  dsimp only [Pt.U, Pt.locs, Pt.cells, Pt.slots] at h1 h2 h3 h4 h5 X hn hPc ⊢
  obtain ⟨m9, methY, cY, hn9, hmY, hcY, -, hlY, -⟩ := Cond.codeWith_spec h2
  cases Option.some.inj (hn9.symm.trans hn)
  obtain ⟨kY, hkY, -⟩ := className_of_methodNamed hn
  have hinitY : kY.init = .initialized := Cond.initialized_spec (findClass_of_methodNamed hn) hkY h3
  have h : At U g.method c below := by rw [hg]; exact X.here
  have hlocals9 : W9 + (maxL + 11) + (headSpec ws rm).room.locals ≤ R.locals := hlocals
  have happ : (headSpec ws rm).appliesLoose y e.platform (U.calling g mk a) = true :=
    Spec.appliesLoose_calling (g := g) h hdg hn hkY hinitY
      (X.room_calling (g := g) (R' := (headSpec ws rm).room) hsize hmY hcY hframes (by rw [hlY]; omega) h4 h5) h1
  obtain ⟨mid, hmid⟩ := h.above
  have hfr : (U.setTop g).frames = (.java g :: mid) ++ below := by rw [State.frames_setTop' g h.top, hmid]; rfl
  obtain ⟨o, s₂, hsteps, -, hend, hq⟩ := Steps.callFree hM p X.admits X.cas X.clock (acts := []) hfr happ hPc trivial
  have hq' : vx_Q Qc XC mc ms free a (U.calling g mk a) o s₂ := hq
  rw [State.frames_setTop' g h.top] at hend
  obtain ⟨g₀, hg0⟩ := Option.isSome_iff_exists.mp h.top
  obtain ⟨r, hr⟩ := State.topJava?_eq_some.mp hg0
  have hr' : (({ U with heap := s₂.heap, slotsUsed := s₂.slotsUsed } : State).setVm s₂.vm).frames = .java g₀ :: r := hr
  rcases hq' with ⟨hqc, L, hfe, hL⟩ | ⟨q, rfl, E, ce, L, hx, hce, hcv, hcl, hW₂, hsm, hL⟩
  · obtain ⟨⟨v, rfl⟩, hW₂, e2, q2, q3, q4, q5, q6⟩ := id hfe
    have e3 : s₂ = ({ (U.calling g mk a).setFrames s₂.frames with heap := s₂.heap, slotsUsed := s₂.slotsUsed } : State).setVm s₂.vm := by
      have : s₂ = ({ s₂ with vm := (U.calling g mk a).vm } : State).setVm s₂.vm := rfl
      rw [e2] at this
      exact this
    obtain ⟨c₂, i₂, len₂, hc₂, hd₂, hf₂⟩ := hend
    have hW' : U.WarmedH s₂.vm := hW₂
    have hcc : c₂ = c := by
      have h1 : s₂.code? g.method = U.code? g.method := by
        rw [State.code?_eq, State.code?_eq, hW'.alike.method?]
      exact Option.some.inj (hc₂.symm.trans (h1.trans h.code))
    subst hcc
    have hlen : len₂ = len := by rw [hdg] at hd₂; cases hd₂; rfl
    subst hlen
    have hs₂ : s₂ = (({ U with heap := s₂.heap, slotsUsed := s₂.slotsUsed } : State).setVm s₂.vm).setTop { g with pc := g.pc + len₂, stack := v.toList ++ g.stack } := by
      refine e3.trans ?_
      rw [hf₂, State.calling_eq h.top, State.setFrames_setFrames, State.setTop_of_frames _ hr', hr]
      rfl
    have hsame : U.sameButNew ({ U with heap := s₂.heap, slotsUsed := s₂.slotsUsed } : State) L mc ms := by
      refine ⟨?_, q2, q3, q4, q5, q6⟩
      obtain ⟨t, ht, -⟩ := State.frames_cons hr
      show ({ U with heap := s₂.heap, slotsUsed := s₂.slotsUsed } : State) = { U.setFrames U.frames with heap := s₂.heap, slotsUsed := s₂.slotsUsed }
      rw [State.setFrames_self ht]
    subst hg
    refine Or.inl ⟨v, ⟨(({ U with heap := s₂.heap, slotsUsed := s₂.slotsUsed } : State).setVm s₂.vm), Ls ++ L, c0 + mc, s0 + ms⟩,
      ⟨X.admits, X.cas, X.clock, X.frames, X.room, X.hears, X.method, X.code, (X.here.setHeapUsed s₂.heap s₂.slotsUsed).setVm hW'.alike, X.tail, State.WarmedH.trans X.warmed hW', X.limits, X.bytes, X.same.trans (hsame.setVm s.vm)⟩,
      ⟨g, mk, s₂, L, rfl, rfl, hqc, rfl, hL, rfl, rfl⟩, ?_⟩
    show Steps p.tables e below _ ((({ U with heap := s₂.heap, slotsUsed := s₂.slotsUsed } : State).setVm s₂.vm).setTop { g with pc := g.pc + len₂, stack := v.toList ++ g.stack })
    rw [← hs₂]
    exact hsteps
  · obtain ⟨e2, q2, q3, q4, q5, q6⟩ := id hsm
    have e3 : s₂ = ({ (U.calling g mk a).setFrames s₂.frames with heap := s₂.heap, slotsUsed := s₂.slotsUsed } : State).setVm s₂.vm := by
      have : s₂ = ({ s₂ with vm := (U.calling g mk a).vm } : State).setVm s₂.vm := rfl
      rw [e2] at this
      exact this
    have hf₂ : s₂.frames = .throwing q :: .java g :: U.frames.tail := hend
    have hW' : U.WarmedH s₂.vm := hW₂
    have hs₂ : s₂ = ((({ U with heap := s₂.heap, slotsUsed := s₂.slotsUsed } : State).setVm s₂.vm).setTop g).pushFrame (.throwing q) := by
      refine e3.trans ?_
      rw [hf₂, State.calling_eq h.top, State.setFrames_setFrames, State.pushFrame, State.frames_setTop _ hr', State.setTop_of_frames _ hr', State.setFrames_setFrames, hr]
      rfl
    have hsame : U.sameButNew ({ U with heap := s₂.heap, slotsUsed := s₂.slotsUsed } : State) L mc ms := by
      refine ⟨?_, q2, q3, q4, q5, q6⟩
      obtain ⟨t, ht, -⟩ := State.frames_cons hr
      show ({ U with heap := s₂.heap, slotsUsed := s₂.slotsUsed } : State) = { U.setFrames U.frames with heap := s₂.heap, slotsUsed := s₂.slotsUsed }
      rw [State.setFrames_self ht]
    subst hg
    refine Or.inr ⟨q, ⟨(({ U with heap := s₂.heap, slotsUsed := s₂.slotsUsed } : State).setVm s₂.vm), Ls ++ L, c0 + mc, s0 + ms⟩,
      ⟨X.admits, X.cas, X.clock, X.frames, X.room, X.hears, X.method, X.code, (X.here.setHeapUsed s₂.heap s₂.slotsUsed).setVm hW'.alike, X.tail, State.WarmedH.trans X.warmed hW', X.limits, X.bytes, X.same.trans (hsame.setVm s.vm)⟩,
      ⟨g, mk, s₂, L, E, ce, rfl, rfl, hx, hce, hcv, hcl, rfl, hL, rfl, rfl⟩, ?_⟩
    show Steps p.tables e below _ (((({ U with heap := s₂.heap, slotsUsed := s₂.slotsUsed } : State).setVm s₂.vm).setTop g).pushFrame (.throwing q))
    rw [← hs₂]
    exact hsteps
end
variable {p : Program} {l : Launch} {e : Env} {R : Room} {s : State} {m : MethodId} {args : Array Value} {below : List Frame} {meth : Method} {c : Code} {T : State} {H : Heap} {locs : List Loc} {cells slots : Nat}
theorem vx_callVX (X : Stand p l e R s m args below meth c T locs cells slots) (hexec : p.tables.exec = Jvm.exec) {own C : String} {index : Nat} {y : MethodName} {bytes : ByteArray} {maxL : Nat} {ret : Option FieldType} {hh : List (Nat × Nat × Nat × Nat)}
    (hown : s.vm.findClass own = some m.cls) (hlink : (Cond.methodLink own index y).before args s = true) (hinst : (Cond.instanceMethod y).before args s = true) (hsel : (Cond.selects C y y).before args s = true)
    (hcode : (Cond.codeWith y bytes maxL ret hh).before args s = true) (hy : y.cls ≠ "java/lang/invoke/MethodHandle" ∧ y.cls ≠ "java/lang/invoke/VarHandle")
    {W9 : Nat} {Pre : Pt → Array Value → Prop} {Post : Pt → Array Value → Option Value → Pt → Prop} {PostX : Pt → Array Value → Addr → Pt → Prop} (hK : vx_Back l R p e below s args y 3 W9 Pre Post PostX)
    {b : Addr} {cellB : Cell} (hcell : T.heap[b]? = some cellB) (hobj : cellB.vm.isStatics = false) (hcls : s.vm.findClass C = some cellB.cls)
    {g : JFrame} (hg : g.method = m) (hsize : g.locals.size = c.maxLocals) {argsL rest : List Value} (hlen : ∀ sig, parseMethodDescriptor y.desc = some sig → argsL.length = sig.parameters.length)
    (hstack : g.stack = argsL.reverse ++ .ref b :: rest) (hW : 2 * g.monitorRoom + (rest.map fun v => v.category).sum ≤ W9) (hdg : decode c.code g.pc = .ok (.invokevirtual index, 3))
    (hpre : ∀ vm₁, s.WarmedH vm₁ → Pre ⟨T.setVm vm₁, locs, cells, slots⟩ (Value.ref b :: argsL).toArray) :
    (∃ (v : Option Value) (vm₁ : Vm) (B : Pt), s.WarmedH vm₁ ∧ Stand p l e R s m args below meth c B.U B.locs B.cells B.slots ∧ Post ⟨T.setVm vm₁, locs, cells, slots⟩ (Value.ref b :: argsL).toArray v B ∧
      ∀ target, Steps p.tables e below (B.U.setTop { g with pc := g.pc + 3, stack := v.toList ++ rest }) target → Steps p.tables e below (T.setTop g) target) ∨
    (∃ (q : Addr) (vm₁ : Vm) (B : Pt), s.WarmedH vm₁ ∧ Stand p l e R s m args below meth c B.U B.locs B.cells B.slots ∧ PostX ⟨T.setVm vm₁, locs, cells, slots⟩ (Value.ref b :: argsL).toArray q B ∧
      Steps p.tables e below (T.setTop g) ((B.U.setTop { g with stack := rest }).pushFrame (.throwing q))) := by
  obtain ⟨mk, methM, hnamed, hmethM, hstM, habM⟩ := Cond.instanceMethod_spec hinst
  obtain ⟨m8, methM', cM, hn8, hmethM', -, -, -, -, -, -, hsigM⟩ := Cond.codeWith_spec hcode
  cases Option.some.inj (hn8.symm.trans hnamed)
  cases hmethM.symm.trans hmethM'
  obtain ⟨c2, r2, m2, q1, q2, q3, q4, kP, hkP, hkPi⟩ := Cond.selects_spec hsel
  cases hcls.symm.trans q1
  cases (State.methodFound?_of_named hnamed hy).symm.trans q2
  cases hnamed.symm.trans q3
  have hselP : selectMethod e.platform s.vm cellB.cls mk = .method mk := by rw [Launch.admits_selectMethod X.admits]; exact q4
  obtain ⟨vm₁, X₁, hstep₁⟩ := X.invokevirtual hexec hown hlink hnamed hmethM hstM hkP hkPi hy (a := b) (cell := cellB) hcell
    (fun z h => by rw [h] at hobj; cases hobj) hselP hmethM habM hkP hkPi (g := g) hg (argsL := argsL) (rest := rest) (hlen _ hsigM) hstack hdg
  rcases hK m meth c ⟨T.setVm vm₁, locs, cells, slots⟩ { g with stack := rest } (.invokevirtual index) mk (Value.ref b :: argsL).toArray X₁ hg hsize hdg hW (X₁.named hnamed) (hpre vm₁ X₁.warmed) with ⟨v, B, X', hpost, hsteps⟩ | ⟨q, B, X', hpost, hsteps⟩
  · exact Or.inl ⟨v, vm₁, B, X₁.warmed, X', hpost, fun target h => hstep₁ _ fun acts => by rw [doInvoke_state]; exact hsteps.trans h⟩
  · exact Or.inr ⟨q, vm₁, B, X₁.warmed, X', hpost, hstep₁ _ fun acts => by rw [doInvoke_state]; exact hsteps⟩
theorem vx_callSX (X : Stand p l e R s m args below meth c T locs cells slots) (hexec : p.tables.exec = Jvm.exec) {own : String} {index : Nat} {y : MethodName} {bytes : ByteArray} {maxL : Nat} {ret : Option FieldType} {hh : List (Nat × Nat × Nat × Nat)}
    (hown : s.vm.findClass own = some m.cls) (hlink : (Cond.methodLink own index y).before args s = true) (hstat : (Cond.static y).before args s = true) (hinit : (Cond.initialized y.cls).before args s = true)
    (hcode : (Cond.codeWith y bytes maxL ret hh).before args s = true) (hy : y.cls ≠ "java/lang/invoke/MethodHandle" ∧ y.cls ≠ "java/lang/invoke/VarHandle")
    {W9 : Nat} {Pre : Pt → Array Value → Prop} {Post : Pt → Array Value → Option Value → Pt → Prop} {PostX : Pt → Array Value → Addr → Pt → Prop} (hK : vx_Back l R p e below s args y 3 W9 Pre Post PostX)
    {g : JFrame} (hg : g.method = m) (hsize : g.locals.size = c.maxLocals) {argsL rest : List Value} (hlen : ∀ sig, parseMethodDescriptor y.desc = some sig → argsL.length = sig.parameters.length)
    (hstack : g.stack = argsL.reverse ++ rest) (hW : 2 * g.monitorRoom + (rest.map fun v => v.category).sum ≤ W9) (hdg : decode c.code g.pc = .ok (.invokestatic index, 3))
    (hpre : ∀ vm₁, s.WarmedH vm₁ → Pre ⟨T.setVm vm₁, locs, cells, slots⟩ argsL.toArray) :
    (∃ (v : Option Value) (vm₁ : Vm) (B : Pt), s.WarmedH vm₁ ∧ Stand p l e R s m args below meth c B.U B.locs B.cells B.slots ∧ Post ⟨T.setVm vm₁, locs, cells, slots⟩ argsL.toArray v B ∧
      ∀ target, Steps p.tables e below (B.U.setTop { g with pc := g.pc + 3, stack := v.toList ++ rest }) target → Steps p.tables e below (T.setTop g) target) ∨
    (∃ (q : Addr) (vm₁ : Vm) (B : Pt), s.WarmedH vm₁ ∧ Stand p l e R s m args below meth c B.U B.locs B.cells B.slots ∧ PostX ⟨T.setVm vm₁, locs, cells, slots⟩ argsL.toArray q B ∧
      Steps p.tables e below (T.setTop g) ((B.U.setTop { g with stack := rest }).pushFrame (.throwing q))) := by
  obtain ⟨mk, methM, cM, hnamed, hmethM, -, -, -, -, -, -, hsigM⟩ := Cond.codeWith_spec hcode
  have hstatic : methM.isStatic = true := Cond.static_spec hnamed hmethM hstat
  obtain ⟨kP, hkP, -⟩ := className_of_methodNamed hnamed
  have hinitP : kP.init = .initialized := Cond.initialized_spec (findClass_of_methodNamed hnamed) hkP hinit
  obtain ⟨vm₁, X₁, hstep₁⟩ := X.invokestatic hexec hown hlink hnamed hmethM hstatic hkP hinitP hy (g := g) hg (argsL := argsL) (rest := rest) (hlen _ hsigM) hstack hdg
  rcases hK m meth c ⟨T.setVm vm₁, locs, cells, slots⟩ { g with stack := rest } (.invokestatic index) mk argsL.toArray X₁ hg hsize hdg hW (X₁.named hnamed) (hpre vm₁ X₁.warmed) with ⟨v, B, X', hpost, hsteps⟩ | ⟨q, B, X', hpost, hsteps⟩
  · exact Or.inl ⟨v, vm₁, B, X₁.warmed, X', hpost, fun target h => hstep₁ _ fun acts => by rw [doInvoke_state]; exact hsteps.trans h⟩
  · exact Or.inr ⟨q, vm₁, B, X₁.warmed, X', hpost, hstep₁ _ fun acts => by rw [doInvoke_state]; exact hsteps⟩
theorem vx_callVW (X : Stand p l e R s m args below meth c T locs cells slots) (hexec : p.tables.exec = Jvm.exec) {own C : String} {index : Nat} {y : MethodName} {bytes : ByteArray} {maxL : Nat} {ret : Option FieldType} {hh : List (Nat × Nat × Nat × Nat)}
    (hown : s.vm.findClass own = some m.cls) (hlink : (Cond.methodLink own index y).before args s = true) (hinst : (Cond.instanceMethod y).before args s = true) (hsel : (Cond.selects C y y).before args s = true)
    (hcode : (Cond.codeWith y bytes maxL ret hh).before args s = true) (hy : y.cls ≠ "java/lang/invoke/MethodHandle" ∧ y.cls ≠ "java/lang/invoke/VarHandle")
    {W9 : Nat} {Pre : Pt → Array Value → Prop} {Post : Pt → Array Value → Option Value → Pt → Prop} (hK : Back l R p e below s args y 3 W9 Pre Post)
    {b : Addr} {cellB : Cell} (hcell : T.heap[b]? = some cellB) (hobj : cellB.vm.isStatics = false) (hcls : s.vm.findClass C = some cellB.cls)
    {g : JFrame} (hg : g.method = m) (hsize : g.locals.size = c.maxLocals) {argsL rest : List Value} (hlen : ∀ sig, parseMethodDescriptor y.desc = some sig → argsL.length = sig.parameters.length)
    (hstack : g.stack = argsL.reverse ++ .ref b :: rest) (hW : 2 * g.monitorRoom + (rest.map fun v => v.category).sum ≤ W9) (hdg : decode c.code g.pc = .ok (.invokevirtual index, 3))
    (hpre : ∀ vm₁, s.WarmedH vm₁ → Pre ⟨T.setVm vm₁, locs, cells, slots⟩ (Value.ref b :: argsL).toArray) :
    ∃ (v : Option Value) (vm₁ : Vm) (B : Pt), s.WarmedH vm₁ ∧ Stand p l e R s m args below meth c B.U B.locs B.cells B.slots ∧ Post ⟨T.setVm vm₁, locs, cells, slots⟩ (Value.ref b :: argsL).toArray v B ∧
      ∀ target, Steps p.tables e below (B.U.setTop { g with pc := g.pc + 3, stack := v.toList ++ rest }) target → Steps p.tables e below (T.setTop g) target := by
  obtain ⟨mk, methM, hnamed, hmethM, hstM, habM⟩ := Cond.instanceMethod_spec hinst
  obtain ⟨m8, methM', cM, hn8, hmethM', -, -, -, -, -, -, hsigM⟩ := Cond.codeWith_spec hcode
  cases Option.some.inj (hn8.symm.trans hnamed)
  cases hmethM.symm.trans hmethM'
  obtain ⟨c2, r2, m2, q1, q2, q3, q4, kP, hkP, hkPi⟩ := Cond.selects_spec hsel
  cases hcls.symm.trans q1
  cases (State.methodFound?_of_named hnamed hy).symm.trans q2
  cases hnamed.symm.trans q3
  have hselP : selectMethod e.platform s.vm cellB.cls mk = .method mk := by rw [Launch.admits_selectMethod X.admits]; exact q4
  obtain ⟨vm₁, X₁, hstep₁⟩ := X.invokevirtual hexec hown hlink hnamed hmethM hstM hkP hkPi hy (a := b) (cell := cellB) hcell
    (fun z h => by rw [h] at hobj; cases hobj) hselP hmethM habM hkP hkPi (g := g) hg (argsL := argsL) (rest := rest) (hlen _ hsigM) hstack hdg
  obtain ⟨v, B, X', hpost, hsteps⟩ := hK m meth c ⟨T.setVm vm₁, locs, cells, slots⟩ { g with stack := rest } (.invokevirtual index) mk (Value.ref b :: argsL).toArray X₁ hg hsize hdg hW (X₁.named hnamed) (hpre vm₁ X₁.warmed)
  exact ⟨v, vm₁, B, X₁.warmed, X', hpost, fun target h => hstep₁ _ fun acts => by rw [doInvoke_state]; exact hsteps.trans h⟩
abbrev vx_CVW (R : Room) (s : State) (args : Array Value) (own C : String) (index : Nat) (y : MethodName) (bytes : ByteArray) (maxL : Nat) (ret : Option FieldType) (hh : List (Nat × Nat × Nat × Nat)) (ws : List Cond) (rm : Room) (mc ms n : Nat) : Prop :=
  (rm.cells = mc ∧ rm.slots = ms ∧ rm.frames + 1 ≤ R.frames ∧ 8 + (maxL + 11) + rm.locals ≤ R.locals ∧ (∀ w ∈ ws, ∀ (a' : Array Value) (U : State), s.WarmedH U.vm → w.before a' U = true) ∧ Cond.codeWith y bytes maxL ret hh ∈ ws) ∧
  (Cond.codeWith y bytes maxL ret hh).before args s = true ∧ (Cond.initialized y.cls).before args s = true ∧ (y.cls ≠ "java/lang/invoke/MethodHandle" ∧ y.cls ≠ "java/lang/invoke/VarHandle") ∧
  (∀ sig, parseMethodDescriptor y.desc = some sig → n = sig.parameters.length) ∧ (Cond.methodLink own index y).before args s = true ∧ (Cond.instanceMethod y).before args s = true ∧ (Cond.selects C y y).before args s = true
theorem vx_cwVW {own C : String} {index maxL mc ms : Nat} {y : MethodName} {bytes : ByteArray} {ret : Option FieldType} {hh : List (Nat × Nat × Nat × Nat)} {Ts ws ws' : List Cond} {rm : Room} (n : Nat) (ht : ∀ w ∈ Ts, w.before args s = true) (hT : GoodIn Ts (wsV own index C y ws)) (hw : ws = Cond.codeWith y bytes maxL ret hh :: ws') (hrc : rm.cells = mc) (hrs : rm.slots = ms)
    (hd : y.cls = C ∧ y.cls ≠ "java/lang/invoke/MethodHandle" ∧ y.cls ≠ "java/lang/invoke/VarHandle" ∧ (parseMethodDescriptor y.desc).map (fun d => d.parameters.length) = some n) (hR : rm.frames + 1 ≤ R.frames ∧ 8 + (maxL + 11) + rm.locals ≤ R.locals) :
    vx_CVW R s args own C index y bytes maxL ret hh ws rm mc ms n := by
  obtain ⟨hC, hd⟩ := hd
  subst hC
  have ok : ∀ w ∈ wsV own index y.cls y ws, w.before args s = true := fun w h => ht w (hT w h).1
  have hG : GoodIn Ts ws := fun w h => hT w (by unfold wsV; exact List.mem_append_right _ h)
  have hc : Cond.codeWith y bytes maxL ret hh ∈ ws := by rw [hw]; exact List.mem_cons_self
  refine ⟨⟨hrc, hrs, hR.1, hR.2, pay_in ht hG, hc⟩, ht _ (hG _ hc).1, ok _ (by simp [wsV]), ⟨hd.1, hd.2.1⟩, fun sig h => ?_, ok _ (by simp [wsV]), ok _ (by simp [wsV]), ok _ (by simp [wsV])⟩
  have h2 := hd.2.2
  rw [h] at h2
  exact (Option.some.inj h2).symm
theorem vx_runVW {y : MethodName} {bytes cc : ByteArray} {maxL nL mc ms n index : Nat} {ret : Option FieldType} {hh : List (Nat × Nat × Nat × Nat)} {ws : List Cond} {rm : Room} {Pc : Array Value → State → Prop} {Qc : Array Value → State → Outcome → State → Prop} {free : Addr → Prop} {Ts : List Cond} {own C : String} {b : Addr} {As rest : List Value} {g : JFrame}
    (S : CallFix p m c cc nL s args Ts own) (hM : Met l y ws rm Pc Qc mc ms free) (cw : vx_CVW R s args own C index y bytes maxL ret hh ws rm mc ms n) (hp : PreV s H C b Pc As)
    (hg : g.method = m) (hn : As.length = n) (hsize : g.locals.size = nL) (hstack : g.stack = As.reverse ++ .ref b :: rest) (hW : 2 * g.monitorRoom + (rest.map fun v => v.category).sum ≤ 8) (hdg : decode cc g.pc = .ok (.invokevirtual index, 3)) (hf : cells + mc ≤ R.cells ∧ slots + ms ≤ R.slots) :
    va_Run p l e R s m args below meth c H locs cells slots mc ms g rest (Qc (Value.ref b :: As).toArray) free := by
  obtain ⟨⟨hrc, hrs, hfr, hlo, hws, hcw⟩, hcode, hini, hy, hlen, hl, hin, hse⟩ := cw
  have hK : Back l R p e below s args y 3 8 (PreOf R mc ms Pc) (PostOf Qc mc ms free) := va_backW (hh := hh) (bytes := bytes) (maxL := maxL) (ret := ret) hM hp.1 hrc hrs hfr hlo hws hcw (fun a' U hW => word_at hW (Or.inl (by first | rfl | simp [Cond.onTables, Cond.keeps, Cond.steady])) hini)
  obtain ⟨hx, hb, hml, ho, -⟩ := S
  obtain ⟨-, ⟨cellB, hcB, hoB, hclB⟩, hPc⟩ := hp
  intro T hT X
  obtain ⟨v, vm₁, ⟨U', l2, c2, s2⟩, hW₁, X', ⟨g', mk, t, L, e1, e2, hq, h1, hL, h2, h3⟩, st⟩ := vx_callVW X hx (C := C) (hh := hh) (bytes := bytes) (maxL := maxL) (ret := ret) ho hl hin hse hcode hy hK (by rw [hT]; exact hcB) hoB hclB hg (hsize.trans hml.symm) (argsL := As) (rest := rest) (fun sig h => hn.trans (hlen sig h)) hstack hW (by rw [hb]; exact hdg)
    (fun vm₁ hW₁ => ⟨hf.1, hf.2, hPc (T.setVm vm₁) hT hW₁⟩)
  dsimp only [Pt.U, Pt.locs, Pt.cells, Pt.slots] at X' e1 e2 h1 h2 h3 st
  subst h1; subst h2; subst h3
  exact ⟨v, (T.setVm vm₁).calling g' mk (Value.ref b :: As).toArray, t, U', L, hT, X', hL, e1, e2, hq, st⟩
section
variable {y : MethodName} {bytes cc : ByteArray} {maxL nL mc ms n index : Nat} {ret : Option FieldType} {ws : List Cond} {rm : Room} {Pc : Array Value → State → Prop} {Qc : Array Value → State → Outcome → State → Prop} {XC : String → State → State → Prop} {free : Addr → Prop} {Ts : List Cond} {own C : String} {b : Addr} {As rest : List Value} {g : JFrame}
theorem vx_runVX {hh : List (Nat × Nat × Nat × Nat)} (S : CallFix p m c cc nL s args Ts own) (hM : vx_Met l y ws rm Pc Qc XC mc ms free) (cw : vx_CVW R s args own C index y bytes maxL ret hh ws rm mc ms n) (hp : PreV s H C b Pc As)
    (hg : g.method = m) (hn : As.length = n) (hsize : g.locals.size = nL) (hstack : g.stack = As.reverse ++ .ref b :: rest) (hW : 2 * g.monitorRoom + (rest.map fun v => v.category).sum ≤ 8) (hdg : decode cc g.pc = .ok (.invokevirtual index, 3)) (hf : cells + mc ≤ R.cells ∧ slots + ms ≤ R.slots) :
    vx_Run p l e R s m args below meth c H locs cells slots mc ms g rest (Qc (Value.ref b :: As).toArray) XC free := by
  obtain ⟨⟨hrc, hrs, hfr, hlo, hws, hcw⟩, hcode, hini, hy, hlen, hl, hin, hse⟩ := cw
  have hK : vx_Back l R p e below s args y 3 8 (PreOf R mc ms Pc) (PostOf Qc mc ms free) (vx_Post XC mc ms free) := vx_backW (hh := hh) (bytes := bytes) (maxL := maxL) (ret := ret) hM hp.1 hrc hrs hfr hlo hws hcw (fun a' U hW => word_at hW (Or.inl (by first | rfl | simp [Cond.onTables, Cond.keeps, Cond.steady])) hini)
  obtain ⟨hx, hb, hml, ho, -⟩ := S
  obtain ⟨-, ⟨cellB, hcB, hoB, hclB⟩, hPc⟩ := hp
  intro T hT X
  rcases vx_callVX X hx (C := C) (hh := hh) (bytes := bytes) (maxL := maxL) (ret := ret) ho hl hin hse hcode hy hK (by rw [hT]; exact hcB) hoB hclB hg (hsize.trans hml.symm) (argsL := As) (rest := rest) (fun sig h => hn.trans (hlen sig h)) hstack hW (by rw [hb]; exact hdg)
    (fun vm₁ hW₁ => ⟨hf.1, hf.2, hPc (T.setVm vm₁) hT hW₁⟩) with ⟨v, vm₁, ⟨U', l2, c2, s2⟩, hW₁, X', ⟨g', mk, t, L, e1, e2, hq, h1, hL, h2, h3⟩, st⟩ | ⟨q, vm₁, ⟨U', l2, c2, s2⟩, hW₁, X', ⟨g', mk, t, L, E, ce, e1, e2, hq, hce, hcv, hcl, h1, hL, h2, h3⟩, st⟩
  · dsimp only [Pt.U, Pt.locs, Pt.cells, Pt.slots] at X' e1 e2 h1 h2 h3 st
    subst h1; subst h2; subst h3
    exact Or.inl ⟨v, (T.setVm vm₁).calling g' mk (Value.ref b :: As).toArray, t, U', L, hT, X', hL, e1, e2, hq, st⟩
  · dsimp only [Pt.U, Pt.locs, Pt.cells, Pt.slots] at X' e1 e2 h1 h2 h3 st hcl
    subst h1; subst h2; subst h3
    exact Or.inr ⟨q, (T.setVm vm₁).calling g' mk (Value.ref b :: As).toArray, t, U', L, E, ce, hT, X', hL, e1, e2, hq, hce, hcv, vx_cls hW₁ hcl, st⟩
theorem vx_runSX {hh : List (Nat × Nat × Nat × Nat)} (S : CallFix p m c cc nL s args Ts own) (hM : vx_Met l y ws rm Pc Qc XC mc ms free) (cw : vx_CSW R s args own index y bytes maxL ret hh ws rm mc ms n) (hp : PreS s H Pc As)
    (hg : g.method = m) (hn : As.length = n) (hsize : g.locals.size = nL) (hstack : g.stack = As.reverse ++ rest) (hW : 2 * g.monitorRoom + (rest.map fun v => v.category).sum ≤ 8) (hdg : decode cc g.pc = .ok (.invokestatic index, 3)) (hf : cells + mc ≤ R.cells ∧ slots + ms ≤ R.slots) :
    vx_Run p l e R s m args below meth c H locs cells slots mc ms g rest (Qc As.toArray) XC free := by
  obtain ⟨⟨hrc, hrs, hfr, hlo, hws, hcw⟩, hcode, hini, hy, hlen, hl, hstt⟩ := cw
  have hK : vx_Back l R p e below s args y 3 8 (PreOf R mc ms Pc) (PostOf Qc mc ms free) (vx_Post XC mc ms free) := vx_backW (hh := hh) (bytes := bytes) (maxL := maxL) (ret := ret) hM hp.1 hrc hrs hfr hlo hws hcw (fun a' U hW => word_at hW (Or.inl (by first | rfl | simp [Cond.onTables, Cond.keeps, Cond.steady])) hini)
  obtain ⟨hx, hb, hml, ho, -⟩ := S
  intro T hT X
  rcases vx_callSX X hx (hh := hh) (bytes := bytes) (maxL := maxL) (ret := ret) ho hl hstt hini hcode hy hK hg (hsize.trans hml.symm) (argsL := As) (rest := rest) (fun sig h => hn.trans (hlen sig h)) hstack hW (by rw [hb]; exact hdg)
    (fun vm₁ hW₁ => ⟨hf.1, hf.2, hp.2 (T.setVm vm₁) hT hW₁⟩) with ⟨v, vm₁, ⟨U', l2, c2, s2⟩, hW₁, X', ⟨g', mk, t, L, e1, e2, hq, h1, hL, h2, h3⟩, st⟩ | ⟨q, vm₁, ⟨U', l2, c2, s2⟩, hW₁, X', ⟨g', mk, t, L, E, ce, e1, e2, hq, hce, hcv, hcl, h1, hL, h2, h3⟩, st⟩
  · dsimp only [Pt.U, Pt.locs, Pt.cells, Pt.slots] at X' e1 e2 h1 h2 h3 st
    subst h1; subst h2; subst h3
    exact Or.inl ⟨v, (T.setVm vm₁).calling g' mk As.toArray, t, U', L, hT, X', hL, e1, e2, hq, st⟩
  · dsimp only [Pt.U, Pt.locs, Pt.cells, Pt.slots] at X' e1 e2 h1 h2 h3 st hcl
    subst h1; subst h2; subst h3
    exact Or.inr ⟨q, (T.setVm vm₁).calling g' mk As.toArray, t, U', L, E, ce, hT, X', hL, e1, e2, hq, hce, hcv, vx_cls hW₁ hcl, st⟩
end
end VXH
theorem vx_ofWH {l : Launch} {y : MethodName} {ws ws' : List Cond} {rm : Room} {Pc : Array Value → State → Prop} {Qc : Array Value → State → Outcome → State → Prop} {XC : String → State → State → Prop} {mc ms : Nat} {free : Addr → Prop} {cc : ByteArray} {maxL : Nat} {ret : Option FieldType} {hh : List (Nat × Nat × Nat × Nat)}
    (hy : plainName y.cls = true) (hw : ws = Cond.codeWith y cc maxL ret hh :: ws')
    (body : ∀ p e s m args below meth c s₁, BodyLoose p l y (headSpec ws rm) cc maxL ret e s m args below meth c s₁ → c.maxLocals = maxL → Pc args s →
      W p l e (headSpec ws rm).room s m args below meth c s.heap [] 0 0 (vx_MQ below Qc XC args s mc ms free) (entryFrame m args maxL)) : vx_Met l y ws rm Pc Qc XC mc ms free := by
  refine MetFree.of_bodyS (code := cc) (maxLocals := maxL) (ret := ret) hy ?_ ?_
  · intro args s m h hn
    obtain ⟨m9, meth, c, hn9, h1, h2, h3, h4, -, h5, h6, -⟩ := Cond.codeWith_spec (atoms_spec (ws := ws) h _ (by rw [hw]; exact List.mem_cons_self))
    cases hn.symm.trans hn9
    exact ⟨meth, c, h1, h2, h3, h4, h5, h6⟩
  · intro p e s m args below meth c s₁ B hml hP _
    have hh0 : s₁.heap = s.heap := by rw [B.state]; rfl
    obtain ⟨t, a1, o, b1, b2, b3⟩ := body p e s m args below meth c s₁ B hml hP s₁ hh0 (Stand.of_body B)
    exact ⟨t, o, a1, b1, b2, b3⟩
/-! ===== END ===== -/
end
section
/-! NAMES: classes, fields, methods (own program out of the listing and the tables) -/
def rn_De : String := "ReversalDesk"
def rn_Sl : String := "ReversalDesk$Slot"
def rn_Te : String := "ReversalDesk$Text"
def rn_Dr : String := "ReversalDesk$Drawing"
def rn_Ch : String := "ReversalDesk$Chart"
def rn_Mo : String := "ReversalDeskModel"
def rn_La : String := "ReversalDeskLaw"
def tb_De : u_T := fun k => match k with
  | 0 => ("ReversalDesk", "genesNow", "I", false)
  | 1 => ("ReversalDesk", "slots", "[LReversalDesk$Slot;", true)
  | 2 => ("ReversalDesk", "text", "LReversalDesk$Text;", true)
  | 3 => ("ReversalDesk", "sheet", "LReversalDesk$Drawing;", true)
  | 4 => ("ReversalDesk", "charts", "[LReversalDesk$Chart;", true)
  | 5 => ("ReversalDesk", "steps", "[I", true)
  | 6 => ("ReversalDesk", "stepCount", "I", false)
  | 7 => ("ReversalDesk", "signedPlaces", "[I", true)
  | 8 => ("ReversalDesk", "relativeRow", "[I", true)
  | _ => ("ReversalDesk", "tried", "[I", true)
def ty_De : Nat → FieldType := fun k => match k with
  | 0 => .int
  | 1 => .array (.object "ReversalDesk$Slot")
  | 2 => .object "ReversalDesk$Text"
  | 3 => .object "ReversalDesk$Drawing"
  | 4 => .array (.object "ReversalDesk$Chart")
  | 5 => .array .int
  | 6 => .int
  | 7 => .array .int
  | 8 => .array .int
  | _ => .array .int
theorem nm_De : ∀ a, a < 10 → ∀ b, b < 10 → a ≠ b → (tb_De a).2.1 ≠ (tb_De b).2.1 := by decide +kernel
theorem tk_De : ∀ k, k < 10 → parseFieldDescriptor (tb_De k).2.2.1 = some (ty_De k) := by decide +kernel
def tb_Sl : u_T := fun k => match k with
  | 0 => ("ReversalDesk$Slot", "order", "[I", true)
  | 1 => ("ReversalDesk$Slot", "firstPlaces", "[I", true)
  | 2 => ("ReversalDesk$Slot", "lastPlaces", "[I", true)
  | _ => ("ReversalDesk$Slot", "kept", "I", false)
def ty_Sl : Nat → FieldType := fun k => match k with
  | 0 => .array .int
  | 1 => .array .int
  | 2 => .array .int
  | _ => .int
theorem nm_Sl : ∀ a, a < 4 → ∀ b, b < 4 → a ≠ b → (tb_Sl a).2.1 ≠ (tb_Sl b).2.1 := by decide +kernel
theorem tk_Sl : ∀ k, k < 4 → parseFieldDescriptor (tb_Sl k).2.2.1 = some (ty_Sl k) := by decide +kernel
def tb_Te : u_T := fun k => match k with
  | 0 => ("ReversalDesk$Text", "characters", "[I", true)
  | _ => ("ReversalDesk$Text", "length", "I", false)
def ty_Te : Nat → FieldType := fun k => match k with
  | 0 => .array .int
  | _ => .int
theorem nm_Te : ∀ a, a < 2 → ∀ b, b < 2 → a ≠ b → (tb_Te a).2.1 ≠ (tb_Te b).2.1 := by decide +kernel
theorem tk_Te : ∀ k, k < 2 → parseFieldDescriptor (tb_Te k).2.2.1 = some (ty_Te k) := by decide +kernel
def tb_Dr : u_T := fun k => match k with
  | 0 => ("ReversalDesk$Drawing", "lesserSpot", "[I", true)
  | 1 => ("ReversalDesk$Drawing", "greaterSpot", "[I", true)
  | 2 => ("ReversalDesk$Drawing", "lines", "I", false)
  | 3 => ("ReversalDesk$Drawing", "spots", "I", false)
  | 4 => ("ReversalDesk$Drawing", "framedRow", "[I", true)
  | 5 => ("ReversalDesk$Drawing", "endAt", "[I", true)
  | 6 => ("ReversalDesk$Drawing", "spotOf", "[I", true)
  | 7 => ("ReversalDesk$Drawing", "seen", "[Z", true)
  | 8 => ("ReversalDesk$Drawing", "partOf", "[I", true)
  | 9 => ("ReversalDesk$Drawing", "bad", "[Z", true)
  | _ => ("ReversalDesk$Drawing", "badAround", "[I", true)
def ty_Dr : Nat → FieldType := fun k => match k with
  | 0 => .array .int
  | 1 => .array .int
  | 2 => .int
  | 3 => .int
  | 4 => .array .int
  | 5 => .array .int
  | 6 => .array .int
  | 7 => .array .boolean
  | 8 => .array .int
  | 9 => .array .boolean
  | _ => .array .int
theorem nm_Dr : ∀ a, a < 11 → ∀ b, b < 11 → a ≠ b → (tb_Dr a).2.1 ≠ (tb_Dr b).2.1 := by decide +kernel
theorem tk_Dr : ∀ k, k < 11 → parseFieldDescriptor (tb_Dr k).2.2.1 = some (ty_Dr k) := by decide +kernel
def tb_Ch : u_T := fun k => match k with
  | 0 => ("ReversalDesk$Chart", "orders", "I", true)
  | 1 => ("ReversalDesk$Chart", "toPlain", "[I", true)
  | 2 => ("ReversalDesk$Chart", "genes", "I", true)
  | 3 => ("ReversalDesk$Chart", "walked", "[I", true)
  | _ => ("ReversalDesk$Chart", "knownWays", "[J", true)
def ty_Ch : Nat → FieldType := fun k => match k with
  | 0 => .int
  | 1 => .array .int
  | 2 => .int
  | 3 => .array .int
  | _ => .array .long
theorem nm_Ch : ∀ a, a < 5 → ∀ b, b < 5 → a ≠ b → (tb_Ch a).2.1 ≠ (tb_Ch b).2.1 := by decide +kernel
theorem tk_Ch : ∀ k, k < 5 → parseFieldDescriptor (tb_Ch k).2.2.1 = some (ty_Ch k) := by decide +kernel
def tb_Mo : u_T := fun k => match k with
  | 0 => ("ReversalDeskModel", "thrown", "I", false)
  | 1 => ("ReversalDeskModel", "genes", "I", false)
  | 2 => ("ReversalDeskModel", "orders", "[I", true)
  | 3 => ("ReversalDeskModel", "kept", "[I", true)
  | 4 => ("ReversalDeskModel", "turns", "[I", true)
  | 5 => ("ReversalDeskModel", "text", "[I", true)
  | 6 => ("ReversalDeskModel", "length", "I", false)
  | 7 => ("ReversalDeskModel", "planned", "Z", false)
  | 8 => ("ReversalDeskModel", "steps", "I", false)
  | 9 => ("ReversalDeskModel", "plan", "[I", true)
  | 10 => ("ReversalDeskModel", "made", "[Z", true)
  | 11 => ("ReversalDeskModel", "base", "I", false)
  | 12 => ("ReversalDeskModel", "found", "I", false)
  | 13 => ("ReversalDeskModel", "far", "[I", true)
  | 14 => ("ReversalDeskModel", "queue", "[I", true)
  | 15 => ("ReversalDeskModel", "many", "[J", true)
  | 16 => ("ReversalDeskModel", "row", "[I", true)
  | 17 => ("ReversalDeskModel", "other", "[I", true)
  | 18 => ("ReversalDeskModel", "between", "[I", true)
  | 19 => ("ReversalDeskModel", "ends", "[I", true)
  | 20 => ("ReversalDeskModel", "spots", "[I", true)
  | 21 => ("ReversalDeskModel", "part", "[I", true)
  | 22 => ("ReversalDeskModel", "bad", "[Z", true)
  | 23 => ("ReversalDeskModel", "seen", "[Z", true)
  | _ => ("ReversalDeskModel", "sequence", "[I", true)
def ty_Mo : Nat → FieldType := fun k => match k with
  | 0 => .int
  | 1 => .int
  | 2 => .array .int
  | 3 => .array .int
  | 4 => .array .int
  | 5 => .array .int
  | 6 => .int
  | 7 => .boolean
  | 8 => .int
  | 9 => .array .int
  | 10 => .array .boolean
  | 11 => .int
  | 12 => .int
  | 13 => .array .int
  | 14 => .array .int
  | 15 => .array .long
  | 16 => .array .int
  | 17 => .array .int
  | 18 => .array .int
  | 19 => .array .int
  | 20 => .array .int
  | 21 => .array .int
  | 22 => .array .boolean
  | 23 => .array .boolean
  | _ => .array .int
theorem nm_Mo : ∀ a, a < 25 → ∀ b, b < 25 → a ≠ b → (tb_Mo a).2.1 ≠ (tb_Mo b).2.1 := by decide +kernel
theorem tk_Mo : ∀ k, k < 25 → parseFieldDescriptor (tb_Mo k).2.2.1 = some (ty_Mo k) := by decide +kernel
def mm_cl : List vw_C := [(rn_De, tb_De, 10), (rn_Sl, tb_Sl, 4), (rn_Te, tb_Te, 2), (rn_Dr, tb_Dr, 11), (rn_Ch, tb_Ch, 5), (rn_Mo, tb_Mo, 25)]
def mm_nf : Nat → Nat := fun c => match c with
  | 0 => 10
  | 1 => 4
  | 2 => 2
  | 3 => 11
  | 4 => 5
  | _ => 25
def mm_tf : Nat → Nat → FieldType := fun c => match c with
  | 0 => ty_De
  | 1 => ty_Sl
  | 2 => ty_Te
  | 3 => ty_Dr
  | 4 => ty_Ch
  | _ => ty_Mo
def mm_tys (tc : Nat → ClassId) : List (ClassId × FieldType) := [(tc 0, .int), (tc 1, .boolean), (tc 2, .long), (tc 3, .object "ReversalDesk$Slot"), (tc 4, .object "ReversalDesk$Chart")]
abbrev mm_M : Type := MethodName × ByteArray × Nat × Option FieldType
abbrev cd_De_init : ByteArray := prog_1_method_1_code
def yn_De_init : MethodName := ⟨rn_De, "<init>", "()V"⟩
abbrev mt_De_init : mm_M := (yn_De_init, cd_De_init, 2, none)
abbrev cd_Sl_init : ByteArray := prog_4_method_1_code
def yn_Sl_init : MethodName := ⟨rn_Sl, "<init>", "()V"⟩
abbrev mt_Sl_init : mm_M := (yn_Sl_init, cd_Sl_init, 1, none)
abbrev cd_Sl_becomePlain : ByteArray := prog_4_method_2_code
def yn_Sl_becomePlain : MethodName := ⟨rn_Sl, "becomePlain", "()V"⟩
abbrev mt_Sl_becomePlain : mm_M := (yn_Sl_becomePlain, cd_Sl_becomePlain, 2, none)
abbrev cd_Te_init : ByteArray := prog_5_method_1_code
def yn_Te_init : MethodName := ⟨rn_Te, "<init>", "()V"⟩
abbrev mt_Te_init : mm_M := (yn_Te_init, cd_Te_init, 1, none)
abbrev cd_Dr_init : ByteArray := prog_3_method_1_code
def yn_Dr_init : MethodName := ⟨rn_Dr, "<init>", "()V"⟩
abbrev mt_Dr_init : mm_M := (yn_Dr_init, cd_Dr_init, 1, none)
abbrev cd_De_write : ByteArray := prog_1_method_3_code
def yn_De_write : MethodName := ⟨rn_De, "write", "(J)I"⟩
abbrev mt_De_write : mm_M := (yn_De_write, cd_De_write, 3, (some .int))
abbrev cd_Te_add : ByteArray := prog_5_method_2_code
def yn_Te_add : MethodName := ⟨rn_Te, "add", "(J)I"⟩
abbrev mt_Te_add : mm_M := (yn_Te_add, cd_Te_add, 6, (some .int))
abbrev cd_Te_byteAt : ByteArray := prog_5_method_3_code
def yn_Te_byteAt : MethodName := ⟨rn_Te, "byteAt", "(JI)I"⟩
abbrev mt_Te_byteAt : mm_M := (yn_Te_byteAt, cd_Te_byteAt, 3, (some .int))
abbrev cd_De_wipe : ByteArray := prog_1_method_4_code
def yn_De_wipe : MethodName := ⟨rn_De, "wipe", "()I"⟩
abbrev mt_De_wipe : mm_M := (yn_De_wipe, cd_De_wipe, 1, (some .int))
abbrev cd_Te_empty : ByteArray := prog_5_method_4_code
def yn_Te_empty : MethodName := ⟨rn_Te, "empty", "()I"⟩
abbrev mt_Te_empty : mm_M := (yn_Te_empty, cd_Te_empty, 2, (some .int))
abbrev cd_La_genes : ByteArray := method_3_code
def yn_La_genes : MethodName := ⟨rn_La, "genes", "(LReversalDesk;I)I"⟩
abbrev mt_La_genes : mm_M := (yn_La_genes, cd_La_genes, 3, (some .int))
abbrev cd_De_genes : ByteArray := prog_1_method_2_code
def yn_De_genes : MethodName := ⟨rn_De, "genes", "(I)V"⟩
abbrev mt_De_genes : mm_M := (yn_De_genes, cd_De_genes, 3, none)
abbrev cd_La_read : ByteArray := method_4_code
def yn_La_read : MethodName := ⟨rn_La, "read", "(LReversalDesk;I[J)I"⟩
abbrev mt_La_read : mm_M := (yn_La_read, cd_La_read, 4, (some .int))
abbrev cd_De_read : ByteArray := prog_1_method_5_code
def yn_De_read : MethodName := ⟨rn_De, "read", "(I)I"⟩
abbrev mt_De_read : mm_M := (yn_De_read, cd_De_read, 3, (some .int))
abbrev cd_De_checkSlot : ByteArray := prog_1_method_19_code
def yn_De_checkSlot : MethodName := ⟨rn_De, "checkSlot", "(I)V"⟩
abbrev mt_De_checkSlot : mm_M := (yn_De_checkSlot, cd_De_checkSlot, 1, none)
abbrev cd_Te_parse : ByteArray := prog_5_method_5_code
def yn_Te_parse : MethodName := ⟨rn_Te, "parse", "([II)I"⟩
abbrev mt_Te_parse : mm_M := (yn_Te_parse, cd_Te_parse, 9, (some .int))
abbrev cd_Sl_become : ByteArray := prog_4_method_3_code
def yn_Sl_become : MethodName := ⟨rn_Sl, "become", "([I)V"⟩
abbrev mt_Sl_become : mm_M := (yn_Sl_become, cd_Sl_become, 2, none)
abbrev cd_La_gene : ByteArray := method_5_code
def yn_La_gene : MethodName := ⟨rn_La, "gene", "(LReversalDesk;II[J)I"⟩
abbrev mt_La_gene : mm_M := (yn_La_gene, cd_La_gene, 5, (some .int))
abbrev cd_De_gene : ByteArray := prog_1_method_6_code
def yn_De_gene : MethodName := ⟨rn_De, "gene", "(II)I"⟩
abbrev mt_De_gene : mm_M := (yn_De_gene, cd_De_gene, 3, (some .int))
abbrev cd_La_copy : ByteArray := method_6_code
def yn_La_copy : MethodName := ⟨rn_La, "copy", "(LReversalDesk;II)I"⟩
abbrev mt_La_copy : mm_M := (yn_La_copy, cd_La_copy, 4, (some .int))
abbrev cd_De_copy : ByteArray := prog_1_method_7_code
def yn_De_copy : MethodName := ⟨rn_De, "copy", "(II)V"⟩
abbrev mt_De_copy : mm_M := (yn_De_copy, cd_De_copy, 3, none)
abbrev cd_De_checkSlots : ByteArray := prog_1_method_20_code
def yn_De_checkSlots : MethodName := ⟨rn_De, "checkSlots", "(II)V"⟩
abbrev mt_De_checkSlots : mm_M := (yn_De_checkSlots, cd_De_checkSlots, 2, none)
abbrev cd_La_reverse : ByteArray := method_7_code
def yn_La_reverse : MethodName := ⟨rn_La, "reverse", "(LReversalDesk;III)I"⟩
abbrev mt_La_reverse : mm_M := (yn_La_reverse, cd_La_reverse, 5, (some .int))
abbrev cd_De_reverse : ByteArray := prog_1_method_8_code
def yn_De_reverse : MethodName := ⟨rn_De, "reverse", "(III)V"⟩
abbrev mt_De_reverse : mm_M := (yn_De_reverse, cd_De_reverse, 4, none)
abbrev cd_Sl_turnAndKeep : ByteArray := prog_4_method_4_code
def yn_Sl_turnAndKeep : MethodName := ⟨rn_Sl, "turnAndKeep", "(II)V"⟩
abbrev mt_Sl_turnAndKeep : mm_M := (yn_Sl_turnAndKeep, cd_Sl_turnAndKeep, 3, none)
abbrev cd_De_turn : ByteArray := prog_1_method_26_code
def yn_De_turn : MethodName := ⟨rn_De, "turn", "([III)V"⟩
abbrev mt_De_turn : mm_M := (yn_De_turn, cd_De_turn, 6, none)
abbrev cd_La_undo : ByteArray := method_8_code
def yn_La_undo : MethodName := ⟨rn_La, "undo", "(LReversalDesk;I[J)I"⟩
abbrev mt_La_undo : mm_M := (yn_La_undo, cd_La_undo, 4, (some .int))
abbrev cd_De_undo : ByteArray := prog_1_method_9_code
def yn_De_undo : MethodName := ⟨rn_De, "undo", "(I)Z"⟩
abbrev mt_De_undo : mm_M := (yn_De_undo, cd_De_undo, 2, (some .boolean))
abbrev cd_Sl_turnBack : ByteArray := prog_4_method_5_code
def yn_Sl_turnBack : MethodName := ⟨rn_Sl, "turnBack", "()Z"⟩
abbrev mt_Sl_turnBack : mm_M := (yn_Sl_turnBack, cd_Sl_turnBack, 1, (some .boolean))
abbrev cd_La_distance : ByteArray := method_9_code
def yn_La_distance : MethodName := ⟨rn_La, "distance", "(LReversalDesk;II[J)I"⟩
abbrev mt_La_distance : mm_M := (yn_La_distance, cd_La_distance, 5, (some .int))
abbrev cd_De_distance : ByteArray := prog_1_method_10_code
def yn_De_distance : MethodName := ⟨rn_De, "distance", "(II)I"⟩
abbrev mt_De_distance : mm_M := (yn_De_distance, cd_De_distance, 3, (some .int))
abbrev cd_De_drawSlots : ByteArray := prog_1_method_21_code
def yn_De_drawSlots : MethodName := ⟨rn_De, "drawSlots", "(II)V"⟩
abbrev mt_De_drawSlots : mm_M := (yn_De_drawSlots, cd_De_drawSlots, 3, none)
abbrev cd_De_relate : ByteArray := prog_1_method_22_code
def yn_De_relate : MethodName := ⟨rn_De, "relate", "([I[I)V"⟩
abbrev mt_De_relate : mm_M := (yn_De_relate, cd_De_relate, 5, none)
abbrev cd_Dr_draw : ByteArray := prog_3_method_2_code
def yn_Dr_draw : MethodName := ⟨rn_Dr, "draw", "([II)V"⟩
abbrev mt_Dr_draw : mm_M := (yn_Dr_draw, cd_Dr_draw, 5, none)
abbrev cd_Dr_putEnd : ByteArray := prog_3_method_3_code
def yn_Dr_putEnd : MethodName := ⟨rn_Dr, "putEnd", "(II)V"⟩
abbrev mt_Dr_putEnd : mm_M := (yn_Dr_putEnd, cd_Dr_putEnd, 3, none)
abbrev cd_Dr_joinParts : ByteArray := prog_3_method_4_code
def yn_Dr_joinParts : MethodName := ⟨rn_Dr, "joinParts", "()V"⟩
abbrev mt_Dr_joinParts : mm_M := (yn_Dr_joinParts, cd_Dr_joinParts, 3, none)
abbrev cd_Dr_isCrossing : ByteArray := prog_3_method_5_code
def yn_Dr_isCrossing : MethodName := ⟨rn_Dr, "isCrossing", "(II)Z"⟩
abbrev mt_Dr_isCrossing : mm_M := (yn_Dr_isCrossing, cd_Dr_isCrossing, 3, (some .boolean))
abbrev cd_Dr_isWithin : ByteArray := prog_3_method_6_code
def yn_Dr_isWithin : MethodName := ⟨rn_Dr, "isWithin", "(II)Z"⟩
abbrev mt_Dr_isWithin : mm_M := (yn_Dr_isWithin, cd_Dr_isWithin, 3, (some .boolean))
abbrev cd_Dr_unite : ByteArray := prog_3_method_7_code
def yn_Dr_unite : MethodName := ⟨rn_Dr, "unite", "(II)V"⟩
abbrev mt_Dr_unite : mm_M := (yn_Dr_unite, cd_Dr_unite, 6, none)
abbrev cd_Dr_markBadParts : ByteArray := prog_3_method_10_code
def yn_Dr_markBadParts : MethodName := ⟨rn_Dr, "markBadParts", "()V"⟩
abbrev mt_Dr_markBadParts : mm_M := (yn_Dr_markBadParts, cd_Dr_markBadParts, 2, none)
abbrev cd_Dr_isShort : ByteArray := prog_3_method_9_code
def yn_Dr_isShort : MethodName := ⟨rn_Dr, "isShort", "(I)Z"⟩
abbrev mt_Dr_isShort : mm_M := (yn_Dr_isShort, cd_Dr_isShort, 2, (some .boolean))
abbrev cd_Dr_isOriented : ByteArray := prog_3_method_8_code
def yn_Dr_isOriented : MethodName := ⟨rn_Dr, "isOriented", "(I)Z"⟩
abbrev mt_Dr_isOriented : mm_M := (yn_Dr_isOriented, cd_Dr_isOriented, 2, (some .boolean))
abbrev cd_Dr_fewestReversals : ByteArray := prog_3_method_20_code
def yn_Dr_fewestReversals : MethodName := ⟨rn_Dr, "fewestReversals", "()I"⟩
abbrev mt_Dr_fewestReversals : mm_M := (yn_Dr_fewestReversals, cd_Dr_fewestReversals, 1, (some .int))
abbrev cd_Dr_countCycles : ByteArray := prog_3_method_11_code
def yn_Dr_countCycles : MethodName := ⟨rn_Dr, "countCycles", "()I"⟩
abbrev mt_Dr_countCycles : mm_M := (yn_Dr_countCycles, cd_Dr_countCycles, 3, (some .int))
abbrev cd_Dr_walkCycle : ByteArray := prog_3_method_12_code
def yn_Dr_walkCycle : MethodName := ⟨rn_Dr, "walkCycle", "(I)V"⟩
abbrev mt_Dr_walkCycle : mm_M := (yn_Dr_walkCycle, cd_Dr_walkCycle, 5, none)
abbrev cd_Dr_countHurdles : ByteArray := prog_3_method_15_code
def yn_Dr_countHurdles : MethodName := ⟨rn_Dr, "countHurdles", "()I"⟩
abbrev mt_Dr_countHurdles : mm_M := (yn_Dr_countHurdles, cd_Dr_countHurdles, 4, (some .int))
abbrev cd_Dr_writeBadAround : ByteArray := prog_3_method_16_code
def yn_Dr_writeBadAround : MethodName := ⟨rn_Dr, "writeBadAround", "()I"⟩
abbrev mt_Dr_writeBadAround : mm_M := (yn_Dr_writeBadAround, cd_Dr_writeBadAround, 4, (some .int))
abbrev cd_Dr_countRunEnds : ByteArray := prog_3_method_17_code
def yn_Dr_countRunEnds : MethodName := ⟨rn_Dr, "countRunEnds", "(II)I"⟩
abbrev mt_Dr_countRunEnds : mm_M := (yn_Dr_countRunEnds, cd_Dr_countRunEnds, 6, (some .int))
abbrev cd_La_drawing : ByteArray := method_10_code
def yn_La_drawing : MethodName := ⟨rn_La, "drawing", "(LReversalDesk;III[J)I"⟩
abbrev mt_La_drawing : mm_M := (yn_La_drawing, cd_La_drawing, 6, (some .int))
abbrev cd_De_drawing : ByteArray := prog_1_method_11_code
def yn_De_drawing : MethodName := ⟨rn_De, "drawing", "(III)I"⟩
abbrev mt_De_drawing : mm_M := (yn_De_drawing, cd_De_drawing, 4, (some .int))
abbrev cd_Dr_countParts : ByteArray := prog_3_method_13_code
def yn_Dr_countParts : MethodName := ⟨rn_Dr, "countParts", "()I"⟩
abbrev mt_Dr_countParts : mm_M := (yn_Dr_countParts, cd_Dr_countParts, 3, (some .int))
abbrev cd_Dr_countBadParts : ByteArray := prog_3_method_14_code
def yn_Dr_countBadParts : MethodName := ⟨rn_Dr, "countBadParts", "()I"⟩
abbrev mt_Dr_countBadParts : mm_M := (yn_Dr_countBadParts, cd_Dr_countBadParts, 3, (some .int))
abbrev cd_Dr_countOriented : ByteArray := prog_3_method_18_code
def yn_Dr_countOriented : MethodName := ⟨rn_Dr, "countOriented", "()I"⟩
abbrev mt_Dr_countOriented : mm_M := (yn_Dr_countOriented, cd_Dr_countOriented, 3, (some .int))
abbrev cd_Dr_countBreakpoints : ByteArray := prog_3_method_19_code
def yn_Dr_countBreakpoints : MethodName := ⟨rn_Dr, "countBreakpoints", "()I"⟩
abbrev mt_Dr_countBreakpoints : mm_M := (yn_Dr_countBreakpoints, cd_Dr_countBreakpoints, 3, (some .int))
abbrev cd_La_line : ByteArray := method_11_code
def yn_La_line : MethodName := ⟨rn_La, "line", "(LReversalDesk;III[J)I"⟩
abbrev mt_La_line : mm_M := (yn_La_line, cd_La_line, 6, (some .int))
abbrev cd_De_line : ByteArray := prog_1_method_12_code
def yn_De_line : MethodName := ⟨rn_De, "line", "(III)I"⟩
abbrev mt_De_line : mm_M := (yn_De_line, cd_De_line, 4, (some .int))
abbrev cd_La_interval : ByteArray := method_12_code
def yn_La_interval : MethodName := ⟨rn_La, "interval", "(LReversalDesk;III[J)I"⟩
abbrev mt_La_interval : mm_M := (yn_La_interval, cd_La_interval, 6, (some .int))
abbrev cd_De_interval : ByteArray := prog_1_method_13_code
def yn_De_interval : MethodName := ⟨rn_De, "interval", "(III)I"⟩
abbrev mt_De_interval : mm_M := (yn_De_interval, cd_De_interval, 10, (some .int))
abbrev cd_La_scenario : ByteArray := method_13_code
def yn_La_scenario : MethodName := ⟨rn_La, "scenario", "(LReversalDesk;II[J)I"⟩
abbrev mt_La_scenario : mm_M := (yn_La_scenario, cd_La_scenario, 5, (some .int))
abbrev cd_De_scenario : ByteArray := prog_1_method_14_code
def yn_De_scenario : MethodName := ⟨rn_De, "scenario", "(II)I"⟩
abbrev mt_De_scenario : mm_M := (yn_De_scenario, cd_De_scenario, 5, (some .int))
abbrev cd_De_turnNearer : ByteArray := prog_1_method_23_code
def yn_De_turnNearer : MethodName := ⟨rn_De, "turnNearer", "(I)I"⟩
abbrev mt_De_turnNearer : mm_M := (yn_De_turnNearer, cd_De_turnNearer, 4, (some .int))
abbrev cd_La_step : ByteArray := method_14_code
def yn_La_step : MethodName := ⟨rn_La, "step", "(LReversalDesk;I[J)I"⟩
abbrev mt_La_step : mm_M := (yn_La_step, cd_La_step, 4, (some .int))
abbrev cd_De_step : ByteArray := prog_1_method_15_code
def yn_De_step : MethodName := ⟨rn_De, "step", "(I)I"⟩
abbrev mt_De_step : mm_M := (yn_De_step, cd_De_step, 2, (some .int))
abbrev cd_La_ways : ByteArray := method_15_code
def yn_La_ways : MethodName := ⟨rn_La, "ways", "(LReversalDesk;II[J)I"⟩
abbrev mt_La_ways : mm_M := (yn_La_ways, cd_La_ways, 5, (some .int))
abbrev cd_De_ways : ByteArray := prog_1_method_16_code
def yn_De_ways : MethodName := ⟨rn_De, "ways", "(II)J"⟩
abbrev mt_De_ways : mm_M := (yn_De_ways, cd_De_ways, 4, (some .long))
abbrev cd_De_chartNow : ByteArray := prog_1_method_24_code
def yn_De_chartNow : MethodName := ⟨rn_De, "chartNow", "()LReversalDesk$Chart;"⟩
abbrev mt_De_chartNow : mm_M := (yn_De_chartNow, cd_De_chartNow, 1, (some (.object "ReversalDesk$Chart")))
abbrev cd_Ch_init : ByteArray := prog_2_method_1_code
def yn_Ch_init : MethodName := ⟨rn_Ch, "<init>", "(I)V"⟩
abbrev mt_Ch_init : mm_M := (yn_Ch_init, cd_Ch_init, 4, none)
abbrev cd_Ch_measure : ByteArray := prog_2_method_2_code
def yn_Ch_measure : MethodName := ⟨rn_Ch, "measure", "(LReversalDesk$Drawing;)V"⟩
abbrev mt_Ch_measure : mm_M := (yn_Ch_measure, cd_Ch_measure, 3, none)
abbrev cd_Ch_layOut : ByteArray := prog_2_method_4_code
def yn_Ch_layOut : MethodName := ⟨rn_Ch, "layOut", "(I[I)V"⟩
abbrev mt_Ch_layOut : mm_M := (yn_Ch_layOut, cd_Ch_layOut, 7, none)
abbrev cd_Ch_makeRoom : ByteArray := prog_2_method_5_code
def yn_Ch_makeRoom : MethodName := ⟨rn_Ch, "makeRoom", "([II)V"⟩
abbrev mt_Ch_makeRoom : mm_M := (yn_Ch_makeRoom, cd_Ch_makeRoom, 4, none)
abbrev cd_Ch_waysToPlain : ByteArray := prog_2_method_7_code
def yn_Ch_waysToPlain : MethodName := ⟨rn_Ch, "waysToPlain", "([I)J"⟩
abbrev mt_Ch_waysToPlain : mm_M := (yn_Ch_waysToPlain, cd_Ch_waysToPlain, 3, (some .long))
abbrev cd_Ch_indexOf : ByteArray := prog_2_method_3_code
def yn_Ch_indexOf : MethodName := ⟨rn_Ch, "indexOf", "([I)I"⟩
abbrev mt_Ch_indexOf : mm_M := (yn_Ch_indexOf, cd_Ch_indexOf, 7, (some .int))
abbrev cd_Ch_waysOfWalked : ByteArray := prog_2_method_8_code
def yn_Ch_waysOfWalked : MethodName := ⟨rn_Ch, "waysOfWalked", "(II)J"⟩
abbrev mt_Ch_waysOfWalked : mm_M := (yn_Ch_waysOfWalked, cd_Ch_waysOfWalked, 8, (some .long))
abbrev cd_La_circle : ByteArray := method_16_code
def yn_La_circle : MethodName := ⟨rn_La, "circle", "(LReversalDesk;II[J)I"⟩
abbrev mt_La_circle : mm_M := (yn_La_circle, cd_La_circle, 5, (some .int))
abbrev cd_De_circle : ByteArray := prog_1_method_17_code
def yn_De_circle : MethodName := ⟨rn_De, "circle", "(II)I"⟩
abbrev mt_De_circle : mm_M := (yn_De_circle, cd_De_circle, 3, (some .int))
abbrev cd_Ch_countAt : ByteArray := prog_2_method_6_code
def yn_Ch_countAt : MethodName := ⟨rn_Ch, "countAt", "(I)I"⟩
abbrev mt_Ch_countAt : mm_M := (yn_Ch_countAt, cd_Ch_countAt, 4, (some .int))
abbrev cd_La_median : ByteArray := method_17_code
def yn_La_median : MethodName := ⟨rn_La, "median", "(LReversalDesk;III[J)I"⟩
abbrev mt_La_median : mm_M := (yn_La_median, cd_La_median, 6, (some .int))
abbrev cd_De_median : ByteArray := prog_1_method_18_code
def yn_De_median : MethodName := ⟨rn_De, "median", "(III)I"⟩
abbrev mt_De_median : mm_M := (yn_De_median, cd_De_median, 9, (some .int))
abbrev cd_De_triedTo : ByteArray := prog_1_method_25_code
def yn_De_triedTo : MethodName := ⟨rn_De, "triedTo", "(ILReversalDesk$Chart;)I"⟩
abbrev mt_De_triedTo : mm_M := (yn_De_triedTo, cd_De_triedTo, 3, (some .int))
abbrev cd_Mo_init : ByteArray := prog_7_method_1_code
def yn_Mo_init : MethodName := ⟨rn_Mo, "<init>", "()V"⟩
abbrev mt_Mo_init : mm_M := (yn_Mo_init, cd_Mo_init, 1, none)
abbrev cd_Mo_clear : ByteArray := prog_7_method_4_code
def yn_Mo_clear : MethodName := ⟨rn_Mo, "clear", "()V"⟩
abbrev mt_Mo_clear : mm_M := (yn_Mo_clear, cd_Mo_clear, 3, none)
abbrev cd_Mo_thrown : ByteArray := prog_7_method_2_code
def yn_Mo_thrown : MethodName := ⟨rn_Mo, "thrown", "()I"⟩
abbrev mt_Mo_thrown : mm_M := (yn_Mo_thrown, cd_Mo_thrown, 1, (some .int))
abbrev cd_Mo_genes : ByteArray := prog_7_method_5_code
def yn_Mo_genes : MethodName := ⟨rn_Mo, "genes", "(I)V"⟩
abbrev mt_Mo_genes : mm_M := (yn_Mo_genes, cd_Mo_genes, 2, none)
abbrev cd_Mo_write : ByteArray := prog_7_method_6_code
def yn_Mo_write : MethodName := ⟨rn_Mo, "write", "(J)I"⟩
abbrev mt_Mo_write : mm_M := (yn_Mo_write, cd_Mo_write, 6, (some .int))
abbrev cd_Mo_wipe : ByteArray := prog_7_method_7_code
def yn_Mo_wipe : MethodName := ⟨rn_Mo, "wipe", "()I"⟩
abbrev mt_Mo_wipe : mm_M := (yn_Mo_wipe, cd_Mo_wipe, 2, (some .int))
abbrev cd_Mo_read : ByteArray := prog_7_method_8_code
def yn_Mo_read : MethodName := ⟨rn_Mo, "read", "(I)I"⟩
abbrev mt_Mo_read : mm_M := (yn_Mo_read, cd_Mo_read, 8, (some .int))
abbrev cd_Mo_noSlot : ByteArray := prog_7_method_3_code
def yn_Mo_noSlot : MethodName := ⟨rn_Mo, "noSlot", "(I)Z"⟩
abbrev mt_Mo_noSlot : mm_M := (yn_Mo_noSlot, cd_Mo_noSlot, 1, (some .boolean))
abbrev cd_Mo_gene : ByteArray := prog_7_method_9_code
def yn_Mo_gene : MethodName := ⟨rn_Mo, "gene", "(II)I"⟩
abbrev mt_Mo_gene : mm_M := (yn_Mo_gene, cd_Mo_gene, 3, (some .int))
abbrev cd_Mo_copy : ByteArray := prog_7_method_10_code
def yn_Mo_copy : MethodName := ⟨rn_Mo, "copy", "(II)V"⟩
abbrev mt_Mo_copy : mm_M := (yn_Mo_copy, cd_Mo_copy, 4, none)
abbrev cd_Mo_reverse : ByteArray := prog_7_method_12_code
def yn_Mo_reverse : MethodName := ⟨rn_Mo, "reverse", "(III)V"⟩
abbrev mt_Mo_reverse : mm_M := (yn_Mo_reverse, cd_Mo_reverse, 5, none)
abbrev cd_Mo_turn : ByteArray := prog_7_method_11_code
def yn_Mo_turn : MethodName := ⟨rn_Mo, "turn", "([IIII)V"⟩
abbrev mt_Mo_turn : mm_M := (yn_Mo_turn, cd_Mo_turn, 8, none)
abbrev cd_Mo_undo : ByteArray := prog_7_method_13_code
def yn_Mo_undo : MethodName := ⟨rn_Mo, "undo", "(I)Z"⟩
abbrev mt_Mo_undo : mm_M := (yn_Mo_undo, cd_Mo_undo, 3, (some .boolean))
abbrev cd_Mo_distance : ByteArray := prog_7_method_21_code
def yn_Mo_distance : MethodName := ⟨rn_Mo, "distance", "(II)I"⟩
abbrev mt_Mo_distance : mm_M := (yn_Mo_distance, cd_Mo_distance, 3, (some .int))
abbrev cd_Mo_distanceOf : ByteArray := prog_7_method_20_code
def yn_Mo_distanceOf : MethodName := ⟨rn_Mo, "distanceOf", "([II[II)I"⟩
abbrev mt_Mo_distanceOf : mm_M := (yn_Mo_distanceOf, cd_Mo_distanceOf, 5, (some .int))
abbrev cd_Mo_makeTable : ByteArray := prog_7_method_18_code
def yn_Mo_makeTable : MethodName := ⟨rn_Mo, "makeTable", "()V"⟩
abbrev mt_Mo_makeTable : mm_M := (yn_Mo_makeTable, cd_Mo_makeTable, 3, none)
abbrev cd_Mo_orderCount : ByteArray := prog_7_method_17_code
def yn_Mo_orderCount : MethodName := ⟨rn_Mo, "orderCount", "()I"⟩
abbrev mt_Mo_orderCount : mm_M := (yn_Mo_orderCount, cd_Mo_orderCount, 3, (some .int))
abbrev cd_Mo_spread : ByteArray := prog_7_method_19_code
def yn_Mo_spread : MethodName := ⟨rn_Mo, "spread", "(I)V"⟩
abbrev mt_Mo_spread : mm_M := (yn_Mo_spread, cd_Mo_spread, 6, none)
abbrev cd_Mo_unrank : ByteArray := prog_7_method_16_code
def yn_Mo_unrank : MethodName := ⟨rn_Mo, "unrank", "(I[I)V"⟩
abbrev mt_Mo_unrank : mm_M := (yn_Mo_unrank, cd_Mo_unrank, 9, none)
abbrev cd_Mo_rankOf : ByteArray := prog_7_method_15_code
def yn_Mo_rankOf : MethodName := ⟨rn_Mo, "rankOf", "([I)I"⟩
abbrev mt_Mo_rankOf : mm_M := (yn_Mo_rankOf, cd_Mo_rankOf, 9, (some .int))
abbrev cd_Mo_relate : ByteArray := prog_7_method_14_code
def yn_Mo_relate : MethodName := ⟨rn_Mo, "relate", "([II[II)V"⟩
abbrev mt_Mo_relate : mm_M := (yn_Mo_relate, cd_Mo_relate, 9, none)
abbrev cd_Mo_drawing : ByteArray := prog_7_method_31_code
def yn_Mo_drawing : MethodName := ⟨rn_Mo, "drawing", "(III)I"⟩
abbrev mt_Mo_drawing : mm_M := (yn_Mo_drawing, cd_Mo_drawing, 7, (some .int))
abbrev cd_Mo_draw : ByteArray := prog_7_method_22_code
def yn_Mo_draw : MethodName := ⟨rn_Mo, "draw", "(II)V"⟩
abbrev mt_Mo_draw : mm_M := (yn_Mo_draw, cd_Mo_draw, 5, none)
abbrev cd_Mo_findParts : ByteArray := prog_7_method_28_code
def yn_Mo_findParts : MethodName := ⟨rn_Mo, "findParts", "()I"⟩
abbrev mt_Mo_findParts : mm_M := (yn_Mo_findParts, cd_Mo_findParts, 6, (some .int))
abbrev cd_Mo_isBetween : ByteArray := prog_7_method_26_code
def yn_Mo_isBetween : MethodName := ⟨rn_Mo, "isBetween", "(II)Z"⟩
abbrev mt_Mo_isBetween : mm_M := (yn_Mo_isBetween, cd_Mo_isBetween, 3, (some .boolean))
abbrev cd_Mo_low : ByteArray := prog_7_method_23_code
def yn_Mo_low : MethodName := ⟨rn_Mo, "low", "(I)I"⟩
abbrev mt_Mo_low : mm_M := (yn_Mo_low, cd_Mo_low, 2, (some .int))
abbrev cd_Mo_high : ByteArray := prog_7_method_24_code
def yn_Mo_high : MethodName := ⟨rn_Mo, "high", "(I)I"⟩
abbrev mt_Mo_high : mm_M := (yn_Mo_high, cd_Mo_high, 2, (some .int))
abbrev cd_Mo_isOriented : ByteArray := prog_7_method_25_code
def yn_Mo_isOriented : MethodName := ⟨rn_Mo, "isOriented", "(I)Z"⟩
abbrev mt_Mo_isOriented : mm_M := (yn_Mo_isOriented, cd_Mo_isOriented, 2, (some .boolean))
abbrev cd_Mo_cycles : ByteArray := prog_7_method_27_code
def yn_Mo_cycles : MethodName := ⟨rn_Mo, "cycles", "()I"⟩
abbrev mt_Mo_cycles : mm_M := (yn_Mo_cycles, cd_Mo_cycles, 5, (some .int))
abbrev cd_Mo_hurdles : ByteArray := prog_7_method_29_code
def yn_Mo_hurdles : MethodName := ⟨rn_Mo, "hurdles", "()I"⟩
abbrev mt_Mo_hurdles : mm_M := (yn_Mo_hurdles, cd_Mo_hurdles, 6, (some .int))
abbrev cd_Mo_breakpoints : ByteArray := prog_7_method_30_code
def yn_Mo_breakpoints : MethodName := ⟨rn_Mo, "breakpoints", "()I"⟩
abbrev mt_Mo_breakpoints : mm_M := (yn_Mo_breakpoints, cd_Mo_breakpoints, 5, (some .int))
abbrev cd_Mo_line : ByteArray := prog_7_method_32_code
def yn_Mo_line : MethodName := ⟨rn_Mo, "line", "(III)I"⟩
abbrev mt_Mo_line : mm_M := (yn_Mo_line, cd_Mo_line, 4, (some .int))
abbrev cd_Mo_interval : ByteArray := prog_7_method_33_code
def yn_Mo_interval : MethodName := ⟨rn_Mo, "interval", "(III)I"⟩
abbrev mt_Mo_interval : mm_M := (yn_Mo_interval, cd_Mo_interval, 11, (some .int))
abbrev cd_Mo_scenario : ByteArray := prog_7_method_34_code
def yn_Mo_scenario : MethodName := ⟨rn_Mo, "scenario", "(II)I"⟩
abbrev mt_Mo_scenario : mm_M := (yn_Mo_scenario, cd_Mo_scenario, 6, (some .int))
abbrev cd_Mo_step : ByteArray := prog_7_method_35_code
def yn_Mo_step : MethodName := ⟨rn_Mo, "step", "(I)I"⟩
abbrev mt_Mo_step : mm_M := (yn_Mo_step, cd_Mo_step, 2, (some .int))
abbrev cd_Mo_ways : ByteArray := prog_7_method_36_code
def yn_Mo_ways : MethodName := ⟨rn_Mo, "ways", "(II)J"⟩
abbrev mt_Mo_ways : mm_M := (yn_Mo_ways, cd_Mo_ways, 3, (some .long))
abbrev cd_Mo_circle : ByteArray := prog_7_method_37_code
def yn_Mo_circle : MethodName := ⟨rn_Mo, "circle", "(II)I"⟩
abbrev mt_Mo_circle : mm_M := (yn_Mo_circle, cd_Mo_circle, 5, (some .int))
abbrev cd_Mo_median : ByteArray := prog_7_method_39_code
def yn_Mo_median : MethodName := ⟨rn_Mo, "median", "(III)I"⟩
abbrev mt_Mo_median : mm_M := (yn_Mo_median, cd_Mo_median, 8, (some .int))
abbrev cd_Mo_isLess : ByteArray := prog_7_method_38_code
def yn_Mo_isLess : MethodName := ⟨rn_Mo, "isLess", "([I[III)Z"⟩
abbrev mt_Mo_isLess : mm_M := (yn_Mo_isLess, cd_Mo_isLess, 5, (some .boolean))
/-! WORDS: those that the tables decide and a warming keeps; and those of nest mates and arrays of references -/
def mm_aw : List Cond := lw_tbl.filter goodWord
theorem mm_good : ∀ w ∈ mm_aw, (w.onTables && w.keeps) = true ∨ ∃ ty, w = .arrayClass ty := fun w hw => good_of_word (List.mem_filter.mp hw).2
def mm_nl : List (String × Nat × MethodName × String) := [(rn_De, 22, yn_Te_init, rn_De), (rn_De, 29, yn_Dr_init, rn_De), (rn_Sl, 34, yn_De_turn, rn_De), (rn_Ch, 66, yn_De_turn, rn_De)]
def mm_ao : List String := ["ReversalDesk$Slot", "ReversalDesk$Chart"]
def mm_nw : List Cond := mm_nl.map (fun q => Cond.methodLinkNest q.1 q.2.1 q.2.2.1 q.2.2.2) ++ mm_ao.map (fun C => Cond.arrayOver (.object C))
theorem mm_nw_same (w : Cond) (hw : w ∈ mm_nw) {u U : State} (e : u.vm = U.vm) (h : va_Nw w u) : va_Nw w U := by
  rcases List.mem_append.mp hw with hw | hw
  · obtain ⟨q, -, rfl⟩ := List.mem_map.mp hw
    exact va_Nw.same rfl e h
  · obtain ⟨C, -, rfl⟩ := List.mem_map.mp hw
    exact va_AO.moved (by rw [e]; exact Vm.Alike.refl _) h
theorem mm_nw_warm (w : Cond) (hw : w ∈ mm_nw) {s U : State} (e : s.WarmedH U.vm) (h : va_Nw w s) : va_Nw w U := by
  rcases List.mem_append.mp hw with hw | hw
  · obtain ⟨q, -, rfl⟩ := List.mem_map.mp hw
    exact va_Nw.warmM e h
  · obtain ⟨C, -, rfl⟩ := List.mem_map.mp hw
    exact va_AO.moved e.alike h
theorem mm_in {w : Cond} (h : w ∈ lw_tbl) (hg : goodWord w = true) : w ∈ mm_aw := List.mem_filter.mpr ⟨h, hg⟩
theorem wi_De : ∀ w ∈ u_ws rn_De tb_De 10, w ∈ mm_aw := by decide +kernel
theorem wi_Sl : ∀ w ∈ u_ws rn_Sl tb_Sl 4, w ∈ mm_aw := by decide +kernel
theorem wi_Te : ∀ w ∈ u_ws rn_Te tb_Te 2, w ∈ mm_aw := by decide +kernel
theorem wi_Dr : ∀ w ∈ u_ws rn_Dr tb_Dr 11, w ∈ mm_aw := by decide +kernel
theorem wi_Ch : ∀ w ∈ u_ws rn_Ch tb_Ch 5, w ∈ mm_aw := by decide +kernel
theorem wi_Mo : ∀ w ∈ u_ws rn_Mo tb_Mo 25, w ∈ mm_aw := by decide +kernel
end
section
/-! THE SMALL MACHINE. A value's reference is a POSITION in the list of shapes; what a cell holds is a function of its position.
mW: 'from here, in every real situation that looks so, W holds', stated once; each instruction is a row over mW. -/
def mm_rv (ad : Nat → Nat) : Value → Value
  | .ref k => .ref (ad k)
  | .retAddr b => .ref b
  | v => v
def mm_vo (n : Nat) (v : Value) : Prop := ∀ r, v = .ref r → r < n
abbrev mm_Sh : Type := List ((Nat × Nat) ⊕ Nat)
abbrev mm_H : Type := mm_Sh × (Nat → Nat → Int32) × (Nat → Nat → Int64) × (Nat → Nat → Option Nat) × (Nat → Nat → Value)
abbrev mm_X : Type := Option Value ⊕ Nat → mm_H → Prop
/-- launch; classes' numbers and slots; array classes; the script: cell, length, ints -/
abbrev mm_G : Type := Launch × va_G × (Nat → ClassId) × Nat × Nat × (Nat → Int32)


def mm_ce (tc : Nat → ClassId) (ad : Nat → Nat) (h : mm_H) (k : Nat) : (Nat × Nat) ⊕ Nat → va_E
  | .inl (0, n) => .inl (tc 0, n, .inl (h.2.1 k))
  | .inl (1, n) => .inl (tc 1, n, .inl (h.2.1 k))
  | .inl (2, n) => .inl (tc 2, n, .inr (.inl (h.2.2.1 k)))
  | .inl (t + 3, n) => .inl (tc (t + 3), n, .inr (.inr (.inr (.inr (fun j => (h.2.2.2.1 k j).map ad)))))
  | .inr ci => .inr (ci, (List.range (mm_nf ci)).map (fun j => mm_rv ad (h.2.2.2.2 k j)))
def mm_ws (tc : Nat → ClassId) (ad : Nat → Nat) (h : mm_H) : va_W := h.1.mapIdx (fun k x => (ad k, mm_ce tc ad h k x))
/-- every reference that is kept is of a cell that is there -/
def mm_ok (n : Nat) (h : mm_H) : Prop := (∀ k j r, h.2.2.2.1 k j = some r → r < n) ∧ ∀ k j r, h.2.2.2.2 k j = .ref r → r < n
theorem mm_ws_get {tc : Nat → ClassId} {ad : Nat → Nat} {h : mm_H} {k : Nat} {x : (Nat × Nat) ⊕ Nat} (hk : h.1[k]? = some x) : (mm_ws tc ad h)[k]? = some (ad k, mm_ce tc ad h k x) := by
  unfold mm_ws
  rw [List.getElem?_mapIdx, hk]
  rfl
theorem mm_ws_len {tc : Nat → ClassId} {ad : Nat → Nat} {h : mm_H} : (mm_ws tc ad h).length = h.1.length := by
  unfold mm_ws
  rw [List.length_mapIdx]
theorem mm_ws_set {tc : Nat → ClassId} {ad : Nat → Nat} {h h' : mm_H} {k : Nat} {x : (Nat × Nat) ⊕ Nat} (hs : h'.1 = h.1) (hk : h.1[k]? = some x) (hne : ∀ j, j ≠ k → ∀ y, mm_ce tc ad h' j y = mm_ce tc ad h j y) :
    (mm_ws tc ad h).set k (ad k, mm_ce tc ad h' k x) = mm_ws tc ad h' := by
  apply List.ext_getElem?
  intro j
  by_cases hj : j = k
  · subst hj
    have hlt : j < (mm_ws tc ad h).length := by
      rw [mm_ws_len]
      exact (List.getElem?_eq_some_iff.mp hk).1
    rw [List.getElem?_set_self hlt, mm_ws_get (h := h') (by rw [hs]; exact hk)]
  · rw [List.getElem?_set_ne (fun e => hj e.symm)]
    unfold mm_ws
    rw [List.getElem?_mapIdx, List.getElem?_mapIdx, hs]
    cases h.1[j]? with
    | none => rfl
    | some y => simp only [Option.map_some, hne j hj y]
theorem mm_rv_up {ad : Nat → Nat} {n q : Nat} {v : Value} (h : mm_vo n v) : mm_rv (va_up ad n q) v = mm_rv ad v := by
  cases v with
  | ref r =>
    show Value.ref (va_up ad n q r) = .ref (ad r)
    rw [va_up_ne _ _ (Nat.ne_of_lt (h r rfl))]
  | _ => rfl
theorem mm_ro_up {ad : Nat → Nat} {n q : Nat} {v : Option Nat} (h : ∀ r, v = some r → r < n) : v.map (va_up ad n q) = v.map ad := by
  cases v with
  | none => rfl
  | some r =>
    show some (va_up ad n q r) = some (ad r)
    rw [va_up_ne _ _ (Nat.ne_of_lt (h r rfl))]
theorem mm_ce_up {tc : Nat → ClassId} {ad : Nat → Nat} {n q : Nat} {h h' : mm_H} (ho : mm_ok n h) {k : Nat} (e1 : h'.2.1 k = h.2.1 k) (e2 : h'.2.2.1 k = h.2.2.1 k) (e3 : h'.2.2.2.1 k = h.2.2.2.1 k) (e4 : h'.2.2.2.2 k = h.2.2.2.2 k) (x : (Nat × Nat) ⊕ Nat) :
    mm_ce tc (va_up ad n q) h' k x = mm_ce tc ad h k x := by
  match x with
  | .inl (0, m) => simp only [mm_ce, e1]
  | .inl (1, m) => simp only [mm_ce, e1]
  | .inl (2, m) => simp only [mm_ce, e2]
  | .inl (t + 3, m) =>
    simp only [mm_ce, e3]
    congr 7
    funext j
    exact mm_ro_up (ho.1 k j)
  | .inr ci =>
    simp only [mm_ce, e4]
    congr 2
    apply List.map_congr_left
    intro j _
    exact mm_rv_up (ho.2 k j)
theorem mm_ws_push {tc : Nat → ClassId} {ad : Nat → Nat} {q : Nat} {h h' : mm_H} {x : (Nat × Nat) ⊕ Nat} (ho : mm_ok h.1.length h) (hs : h'.1 = h.1 ++ [x])
    (e : ∀ k, k < h.1.length → h'.2.1 k = h.2.1 k ∧ h'.2.2.1 k = h.2.2.1 k ∧ h'.2.2.2.1 k = h.2.2.2.1 k ∧ h'.2.2.2.2 k = h.2.2.2.2 k) :
    mm_ws tc (va_up ad h.1.length q) h' = mm_ws tc ad h ++ [(q, mm_ce tc (va_up ad h.1.length q) h' h.1.length x)] := by
  unfold mm_ws
  rw [hs, List.mapIdx_concat, va_up_self]
  congr 1
  apply List.ext_getElem?
  intro j
  rw [List.getElem?_mapIdx, List.getElem?_mapIdx]
  cases hj : h.1[j]? with
  | none => rfl
  | some y =>
    have hlt := (List.getElem?_eq_some_iff.mp hj).1
    obtain ⟨e1, e2, e3, e4⟩ := e j hlt
    simp only [Option.map_some]
    rw [mm_ce_up ho e1 e2 e3 e4, va_up_ne _ _ (Nat.ne_of_lt hlt)]
theorem mm_cat (ad : Nat → Nat) (v : Value) : (mm_rv ad v).category = v.category := by cases v <;> rfl
abbrev mm_lm (ad : Nat → Nat) (ls : List (Nat × Value)) : List (Nat × Value) := ls.map (fun q => (q.1, mm_rv ad q.2))
theorem mm_lm_at {ad : Nat → Nat} {ls : List (Nat × Value)} {k i : Nat} {v : Value} (h : ls[k]? = some (i, v)) : (mm_lm ad ls)[k]? = some (i, mm_rv ad v) := by
  rw [List.getElem?_map, h]
  rfl
theorem mm_lm_f1 (ad : Nat → Nat) (ls : List (Nat × Value)) (i : Nat) : (mm_lm ad ls).filter (fun q => !(q.1 == i) && !(q.1 + 1 == i && q.2.category == 2)) = mm_lm ad (ls.filter (fun q => !(q.1 == i) && !(q.1 + 1 == i && q.2.category == 2))) := by
  rw [List.filter_map]
  congr 1
  apply List.filter_congr
  intro q _
  simp only [Function.comp, mm_cat]
theorem mm_lm_f2 (ad : Nat → Nat) (ls : List (Nat × Value)) (i : Nat) : (mm_lm ad ls).filter (fun q => !(q.1 == i) && (!(q.1 == i + 1) && !(q.1 + 1 == i && q.2.category == 2))) = mm_lm ad (ls.filter (fun q => !(q.1 == i) && (!(q.1 == i + 1) && !(q.1 + 1 == i && q.2.category == 2)))) := by
  rw [List.filter_map]
  congr 1
  apply List.filter_congr
  intro q _
  simp only [Function.comp, mm_cat]
theorem mm_lm_up {ad : Nat → Nat} {n q : Nat} {ls : List (Nat × Value)} (h : ∀ x ∈ ls, mm_vo n x.2) : mm_lm (va_up ad n q) ls = mm_lm ad ls := by
  apply List.map_congr_left
  intro x hx
  rw [mm_rv_up (h x hx)]
theorem mm_st_up {ad : Nat → Nat} {n q : Nat} {st : List Value} (h : ∀ x ∈ st, mm_vo n x) : st.map (mm_rv (va_up ad n q)) = st.map (mm_rv ad) := by
  apply List.map_congr_left
  intro x hx
  exact mm_rv_up (h x hx)
theorem mm_vi (n : Nat) (x : Int32) : mm_vo n (.int x) := fun _ h => by cases h
theorem mm_vl (n : Nat) (x : Int64) : mm_vo n (.long x) := fun _ h => by cases h
theorem mm_vn (n : Nat) : mm_vo n .null := fun _ h => by cases h
theorem mm_vs {n m : Nat} (h : n ≤ m) {v : Value} (hv : mm_vo n v) : mm_vo m v := fun r e => Nat.lt_of_lt_of_le (hv r e) h
/-- the method stands: its code, its words, its room -/
def mm_C (G : mm_G) (M : mm_M) (d : Nat) (p : Program) (R : Room) (s : State) (m : MethodId) (args : Array Value) (meth : Method) (c : Code) : Prop :=
  p.tables.exec = Jvm.exec ∧ c.code = M.2.1 ∧ c.maxLocals = M.2.2.1 ∧ s.vm.findClass M.1.cls = some m.cls ∧ (∀ w ∈ mm_aw, w.before args s = true) ∧ (∀ w ∈ mm_nw, va_Nw w s) ∧ meth.sig.returnType = M.2.2.2 ∧ meth.locks = false ∧ meth.name = M.1.name ∧
  va_K G.2.1 mm_cl (mm_tys G.2.2.1) s ∧ d + 9 ≤ R.frames ∧ 40 * d + 300 ≤ R.locals
/-- the heap, the locals and the room look so -/
def mm_S (G : mm_G) (M : mm_M) (bc bs : Nat) (R : Room) (s : State) (A : Nat → Prop) (ls : List (Nat × Value)) (st : List Value) (h : mm_H) (n0 : Nat) (ad0 ad : Nat → Nat) (H : Heap) (locs : List Loc) (cells slots : Nat) (lr : Array Slot) : Prop :=
  va_P G.2.1 mm_cl (mm_ws G.2.2.1 ad h) H ∧ va_D A (mm_ws G.2.2.1 ad h) ∧ va_S A s.heap H locs ∧ lv_has lr M.2.2.1 (mm_lm ad ls) ∧ mm_ok h.1.length h ∧ (∀ q ∈ ls, mm_vo h.1.length q.2) ∧ (∀ v ∈ st, mm_vo h.1.length v) ∧ cells + bc ≤ R.cells ∧ slots + bs ≤ R.slots ∧ n0 ≤ h.1.length ∧ ∀ k, k < n0 → ad k = ad0 k
/-- where a return leads -/
def mm_E (G : mm_G) (M : mm_M) (p : Program) (e : Env) (R : Room) (s : State) (m : MethodId) (args : Array Value) (below : List Frame) (meth : Method) (c : Code) (A : Nat → Prop) (n0 : Nat) (ad0 : Nat → Nat) (Q : State → Prop) (X : mm_X) : Prop :=
  ∀ (h : mm_H) (ad : Nat → Nat) (H : Heap) (locs : List Loc) (cells slots : Nat) (lr : Array Slot) (v : Option Value), X (.inl v) h → (∀ x ∈ v.toList, mm_vo h.1.length x) → mm_S G M 0 0 R s A [] [] h n0 ad0 ad H locs cells slots lr →
    (v = none → M.2.2.2 = none → ∀ pc, decode M.2.1 pc = .ok (.return_, 1) → W p G.1 e R s m args below meth c H locs cells slots Q (F0 m pc lr [])) ∧
    (∀ x ty, v = some (.int x) → M.2.2.2 = some ty → narrow ty (.int x) = .int x → ∀ pc, decode M.2.1 pc = .ok (.ireturn, 1) → W p G.1 e R s m args below meth c H locs cells slots Q (F0 m pc lr [.int x])) ∧
    (∀ x, v = some (.long x) → M.2.2.2 = some .long → ∀ pc, decode M.2.1 pc = .ok (.lreturn, 1) → W p G.1 e R s m args below meth c H locs cells slots Q (F0 m pc lr [.long x])) ∧
    (∀ x n, v = some (.ref x) → M.2.2.2 = some (.object n) → ∀ pc, decode M.2.1 pc = .ok (.areturn, 1) → W p G.1 e R s m args below meth c H locs cells slots Q (F0 m pc lr [.ref (ad x)]))
def mW (G : mm_G) (M : mm_M) (d bc bs : Nat) (pc : Nat) (ls : List (Nat × Value)) (st : List Value) (h : mm_H) (X : mm_X) : Prop :=
  ∀ (p : Program) (e : Env) (R : Room) (s : State) (m : MethodId) (args : Array Value) (below : List Frame) (meth : Method) (c : Code) (A : Nat → Prop) (n0 : Nat) (ad0 : Nat → Nat) (Q : State → Prop),
    mm_C G M d p R s m args meth c → (∀ q, s.heap.size ≤ q → A q) → mm_E G M p e R s m args below meth c A n0 ad0 Q X →
    ∀ (ad : Nat → Nat) (H : Heap) (locs : List Loc) (cells slots : Nat) (lr : Array Slot), mm_S G M bc bs R s A ls st h n0 ad0 ad H locs cells slots lr →
      W p G.1 e R s m args below meth c H locs cells slots Q (F0 m pc lr (st.map (mm_rv ad)))
section MMR
variable {G : mm_G} {M : mm_M} {d bc bs pc : Nat} {ls : List (Nat × Value)} {st : List Value} {h : mm_H} {X : mm_X}
theorem mm_S.sk {R : Room} {s : State} {A : Nat → Prop} {st' : List Value} {n0 : Nat} {ad0 ad : Nat → Nat} {H : Heap} {locs : List Loc} {cells slots : Nat} {lr : Array Slot} (z : mm_S G M bc bs R s A ls st h n0 ad0 ad H locs cells slots lr) (hv : ∀ v ∈ st', mm_vo h.1.length v) : mm_S G M bc bs R s A ls st' h n0 ad0 ad H locs cells slots lr :=
  ⟨z.1, z.2.1, z.2.2.1, z.2.2.2.1, z.2.2.2.2.1, z.2.2.2.2.2.1, hv, z.2.2.2.2.2.2.2⟩
theorem mm_S.lt {R : Room} {s : State} {A : Nat → Prop} {ls' : List (Nat × Value)} {st' : List Value} {n0 : Nat} {ad0 ad : Nat → Nat} {H : Heap} {locs : List Loc} {cells slots : Nat} {lr lr' : Array Slot} (z : mm_S G M bc bs R s A ls st h n0 ad0 ad H locs cells slots lr) (hl : lv_has lr' M.2.2.1 (mm_lm ad ls')) (ho : ∀ q ∈ ls', mm_vo h.1.length q.2) (hv : ∀ v ∈ st', mm_vo h.1.length v) : mm_S G M bc bs R s A ls' st' h n0 ad0 ad H locs cells slots lr' :=
  ⟨z.1, z.2.1, z.2.2.1, hl, z.2.2.2.2.1, ho, hv, z.2.2.2.2.2.2.2⟩
theorem mm_S.vs {R : Room} {s : State} {A : Nat → Prop} {n0 : Nat} {ad0 ad : Nat → Nat} {H : Heap} {locs : List Loc} {cells slots : Nat} {lr : Array Slot} (z : mm_S G M bc bs R s A ls st h n0 ad0 ad H locs cells slots lr) : ∀ v ∈ st, mm_vo h.1.length v := z.2.2.2.2.2.2.1
theorem mm_S.vl {R : Room} {s : State} {A : Nat → Prop} {n0 : Nat} {ad0 ad : Nat → Nat} {H : Heap} {locs : List Loc} {cells slots : Nat} {lr : Array Slot} (z : mm_S G M bc bs R s A ls st h n0 ad0 ad H locs cells slots lr) : ∀ q ∈ ls, mm_vo h.1.length q.2 := z.2.2.2.2.2.1
theorem mm_c1 {n : Nat} {v : Value} {st : List Value} (hv : mm_vo n v) (h : ∀ v ∈ st, mm_vo n v) : ∀ x ∈ v :: st, mm_vo n x := List.forall_mem_cons.mpr ⟨hv, h⟩
theorem mm_t1 {n : Nat} {v : Value} {st : List Value} (h : ∀ x ∈ v :: st, mm_vo n x) : ∀ x ∈ st, mm_vo n x := (List.forall_mem_cons.mp h).2
theorem mm_h1 {n : Nat} {v : Value} {st : List Value} (h : ∀ x ∈ v :: st, mm_vo n x) : mm_vo n v := (List.forall_mem_cons.mp h).1
theorem mm_lf {n : Nat} {i : Nat} {v : Value} {ls ls' : List (Nat × Value)} {f : Nat × Value → Bool} (hv : mm_vo n v) (h : ∀ q ∈ ls, mm_vo n q.2) (e : (i, v) :: ls.filter f = ls') : ∀ q ∈ ls', mm_vo n q.2 := by
  subst e
  intro q hq
  rcases List.mem_cons.mp hq with rfl | hq
  · exact hv
  · exact h q (List.mem_filter.mp hq).1

theorem mw_iconst {n : Int} {v : Int32} (hd : decode M.2.1 pc = .ok (.iconst n, 1)) (hv : Int32.ofInt n = v) (k : mW G M d bc bs (pc + 1) ls (.int v :: st) h X) : mW G M d bc bs pc ls st h X := by
  intro p e R s m args below meth c A n0 ad0 Q hC hA hE ad H locs cells slots lr z
  exact lv_iconst hC.1 hC.2.1 hd hv (k p e R s m args below meth c A n0 ad0 Q hC hA hE ad H locs cells slots lr (z.sk (mm_c1 (mm_vi _ _) z.vs)))
theorem mw_bipush {n : Int} {v : Int32} (hd : decode M.2.1 pc = .ok (.bipush n, 2)) (hv : (Int8.ofInt n).toInt32 = v) (k : mW G M d bc bs (pc + 2) ls (.int v :: st) h X) : mW G M d bc bs pc ls st h X := by
  intro p e R s m args below meth c A n0 ad0 Q hC hA hE ad H locs cells slots lr z
  exact lv_bipush hC.1 hC.2.1 hd hv (k p e R s m args below meth c A n0 ad0 Q hC hA hE ad H locs cells slots lr (z.sk (mm_c1 (mm_vi _ _) z.vs)))
theorem mw_sipush {n : Int} {v : Int32} (hd : decode M.2.1 pc = .ok (.sipush n, 3)) (hv : (Int16.ofInt n).toInt32 = v) (k : mW G M d bc bs (pc + 3) ls (.int v :: st) h X) : mW G M d bc bs pc ls st h X := by
  intro p e R s m args below meth c A n0 ad0 Q hC hA hE ad H locs cells slots lr z
  exact lv_sipush hC.1 hC.2.1 hd hv (k p e R s m args below meth c A n0 ad0 Q hC hA hE ad H locs cells slots lr (z.sk (mm_c1 (mm_vi _ _) z.vs)))
theorem mw_lconst {n : Fin 2} {v : Int64} (hd : decode M.2.1 pc = .ok (.lconst n, 1)) (hv : Int64.ofNat (n : Nat) = v) (k : mW G M d bc bs (pc + 1) ls (.long v :: st) h X) : mW G M d bc bs pc ls st h X := by
  intro p e R s m args below meth c A n0 ad0 Q hC hA hE ad H locs cells slots lr z
  exact lv_lconst hC.1 hC.2.1 hd hv (k p e R s m args below meth c A n0 ad0 Q hC hA hE ad H locs cells slots lr (z.sk (mm_c1 (mm_vl _ _) z.vs)))
theorem mw_ldc {idx : Nat} {v : Int32} (hd : decode M.2.1 pc = .ok (.ldc idx, 2)) (hw : Jvm.Cond.constant M.1.cls idx v ∈ mm_aw) (k : mW G M d bc bs (pc + 2) ls (.int v :: st) h X) : mW G M d bc bs pc ls st h X := by
  intro p e R s m args below meth c A n0 ad0 Q hC hA hE ad H locs cells slots lr z
  exact lv_ldc hC.1 hC.2.1 hC.2.2.2.1 (hC.2.2.2.2.1 _ hw) hd (k p e R s m args below meth c A n0 ad0 Q hC hA hE ad H locs cells slots lr (z.sk (mm_c1 (mm_vi _ _) z.vs)))
theorem mw_ldc2 {idx : Nat} {v : Int64} (hd : decode M.2.1 pc = .ok (.ldc2_w idx, 3)) (hw : Jvm.Cond.constantLong M.1.cls idx v ∈ mm_aw) (k : mW G M d bc bs (pc + 3) ls (.long v :: st) h X) : mW G M d bc bs pc ls st h X := by
  intro p e R s m args below meth c A n0 ad0 Q hC hA hE ad H locs cells slots lr z
  exact lv_ldc2 hC.1 hC.2.1 hC.2.2.2.1 (hC.2.2.2.2.1 _ hw) hd (k p e R s m args below meth c A n0 ad0 Q hC hA hE ad H locs cells slots lr (z.sk (mm_c1 (mm_vl _ _) z.vs)))
theorem mw_iload_n {kk : Fin 4} {i : Nat} {x : Int32} (hd : decode M.2.1 pc = .ok (.iload_n kk, 1)) (hi : (kk : Nat) = i) (q : Nat) (hl : ls[q]? = some (i, .int x)) (k : mW G M d bc bs (pc + 1) ls (.int x :: st) h X) : mW G M d bc bs pc ls st h X := by
  intro p e R s m args below meth c A n0 ad0 Q hC hA hE ad H locs cells slots lr z
  exact lv_iload_n hC.1 hC.2.1 hd hi (lv_at z.2.2.2.1 q (mm_lm_at hl)) (k p e R s m args below meth c A n0 ad0 Q hC hA hE ad H locs cells slots lr (z.sk (mm_c1 (mm_vi _ _) z.vs)))
theorem mw_iload {i : Nat} {x : Int32} (hd : decode M.2.1 pc = .ok (.iload i, 2)) (q : Nat) (hl : ls[q]? = some (i, .int x)) (k : mW G M d bc bs (pc + 2) ls (.int x :: st) h X) : mW G M d bc bs pc ls st h X := by
  intro p e R s m args below meth c A n0 ad0 Q hC hA hE ad H locs cells slots lr z
  exact lv_iload hC.1 hC.2.1 hd (lv_at z.2.2.2.1 q (mm_lm_at hl)) (k p e R s m args below meth c A n0 ad0 Q hC hA hE ad H locs cells slots lr (z.sk (mm_c1 (mm_vi _ _) z.vs)))
theorem mw_lload_n {kk : Fin 4} {i : Nat} {x : Int64} (hd : decode M.2.1 pc = .ok (.lload_n kk, 1)) (hi : (kk : Nat) = i) (q : Nat) (hl : ls[q]? = some (i, .long x)) (k : mW G M d bc bs (pc + 1) ls (.long x :: st) h X) : mW G M d bc bs pc ls st h X := by
  intro p e R s m args below meth c A n0 ad0 Q hC hA hE ad H locs cells slots lr z
  exact lv_lload_n hC.1 hC.2.1 hd hi (lv_at z.2.2.2.1 q (mm_lm_at hl)) (k p e R s m args below meth c A n0 ad0 Q hC hA hE ad H locs cells slots lr (z.sk (mm_c1 (mm_vl _ _) z.vs)))
theorem mw_lload {i : Nat} {x : Int64} (hd : decode M.2.1 pc = .ok (.lload i, 2)) (q : Nat) (hl : ls[q]? = some (i, .long x)) (k : mW G M d bc bs (pc + 2) ls (.long x :: st) h X) : mW G M d bc bs pc ls st h X := by
  intro p e R s m args below meth c A n0 ad0 Q hC hA hE ad H locs cells slots lr z
  exact lv_lload hC.1 hC.2.1 hd (lv_at z.2.2.2.1 q (mm_lm_at hl)) (k p e R s m args below meth c A n0 ad0 Q hC hA hE ad H locs cells slots lr (z.sk (mm_c1 (mm_vl _ _) z.vs)))
theorem mw_aload_n {kk : Fin 4} {i : Nat} {x : Nat} (hd : decode M.2.1 pc = .ok (.aload_n kk, 1)) (hi : (kk : Nat) = i) (q : Nat) (hl : ls[q]? = some (i, .ref x)) (k : mW G M d bc bs (pc + 1) ls (.ref x :: st) h X) : mW G M d bc bs pc ls st h X := by
  intro p e R s m args below meth c A n0 ad0 Q hC hA hE ad H locs cells slots lr z
  exact lv_aload_n hC.1 hC.2.1 hd hi (lv_at z.2.2.2.1 q (mm_lm_at hl)) (k p e R s m args below meth c A n0 ad0 Q hC hA hE ad H locs cells slots lr (z.sk (mm_c1 (z.vl _ (List.mem_of_getElem? hl)) z.vs)))
theorem mw_aload {i : Nat} {x : Nat} (hd : decode M.2.1 pc = .ok (.aload i, 2)) (q : Nat) (hl : ls[q]? = some (i, .ref x)) (k : mW G M d bc bs (pc + 2) ls (.ref x :: st) h X) : mW G M d bc bs pc ls st h X := by
  intro p e R s m args below meth c A n0 ad0 Q hC hA hE ad H locs cells slots lr z
  exact lv_aload hC.1 hC.2.1 hd (lv_at z.2.2.2.1 q (mm_lm_at hl)) (k p e R s m args below meth c A n0 ad0 Q hC hA hE ad H locs cells slots lr (z.sk (mm_c1 (z.vl _ (List.mem_of_getElem? hl)) z.vs)))
theorem mw_aload_nS {kk : Fin 4} {i : Nat} {x : Nat} (hd : decode M.2.1 pc = .ok (.aload_n kk, 1)) (hi : (kk : Nat) = i) (q : Nat) (hl : ls[q]? = some (i, .retAddr x)) (k : mW G M d bc bs (pc + 1) ls (.retAddr x :: st) h X) : mW G M d bc bs pc ls st h X := by
  intro p e R s m args below meth c A n0 ad0 Q hC hA hE ad H locs cells slots lr z
  exact lv_aload_n hC.1 hC.2.1 hd hi (lv_at z.2.2.2.1 q (mm_lm_at hl)) (k p e R s m args below meth c A n0 ad0 Q hC hA hE ad H locs cells slots lr (z.sk (mm_c1 (z.vl _ (List.mem_of_getElem? hl)) z.vs)))
theorem mw_aloadS {i : Nat} {x : Nat} (hd : decode M.2.1 pc = .ok (.aload i, 2)) (q : Nat) (hl : ls[q]? = some (i, .retAddr x)) (k : mW G M d bc bs (pc + 2) ls (.retAddr x :: st) h X) : mW G M d bc bs pc ls st h X := by
  intro p e R s m args below meth c A n0 ad0 Q hC hA hE ad H locs cells slots lr z
  exact lv_aload hC.1 hC.2.1 hd (lv_at z.2.2.2.1 q (mm_lm_at hl)) (k p e R s m args below meth c A n0 ad0 Q hC hA hE ad H locs cells slots lr (z.sk (mm_c1 (z.vl _ (List.mem_of_getElem? hl)) z.vs)))
theorem mw_istore_n {kk : Fin 4} {i : Nat} {x : Int32} {ls' : List (Nat × Value)} (hd : decode M.2.1 pc = .ok (.istore_n kk, 1)) (hi : (kk : Nat) = i) (hn : i < M.2.2.1) (hl : (i, Value.int x) :: ls.filter (fun q => !(q.1 == i) && !(q.1 + 1 == i && q.2.category == 2)) = ls') (k : mW G M d bc bs (pc + 1) ls' st h X) : mW G M d bc bs pc ls (.int x :: st) h X := by
  intro p e R s m args below meth c A n0 ad0 Q hC hA hE ad H locs cells slots lr z
  refine lv_istore_n hC.1 hC.2.1 hd hi z.2.2.2.1 hn rfl (fun lr2 hl2 => ?_)
  rw [mm_lm_f1] at hl2
  exact k p e R s m args below meth c A n0 ad0 Q hC hA hE ad H locs cells slots lr2 (z.lt (by rw [← hl]; exact hl2) (mm_lf (mm_h1 z.vs) z.vl hl) (mm_t1 z.vs))
theorem mw_istore {i : Nat} {x : Int32} {ls' : List (Nat × Value)} (hd : decode M.2.1 pc = .ok (.istore i, 2)) (hn : i < M.2.2.1) (hl : (i, Value.int x) :: ls.filter (fun q => !(q.1 == i) && !(q.1 + 1 == i && q.2.category == 2)) = ls') (k : mW G M d bc bs (pc + 2) ls' st h X) : mW G M d bc bs pc ls (.int x :: st) h X := by
  intro p e R s m args below meth c A n0 ad0 Q hC hA hE ad H locs cells slots lr z
  refine lv_istore hC.1 hC.2.1 hd z.2.2.2.1 hn rfl (fun lr2 hl2 => ?_)
  rw [mm_lm_f1] at hl2
  exact k p e R s m args below meth c A n0 ad0 Q hC hA hE ad H locs cells slots lr2 (z.lt (by rw [← hl]; exact hl2) (mm_lf (mm_h1 z.vs) z.vl hl) (mm_t1 z.vs))
theorem mw_lstore_n {kk : Fin 4} {i : Nat} {x : Int64} {ls' : List (Nat × Value)} (hd : decode M.2.1 pc = .ok (.lstore_n kk, 1)) (hi : (kk : Nat) = i) (hn : i + 1 < M.2.2.1) (hl : (i, Value.long x) :: ls.filter (fun q => !(q.1 == i) && (!(q.1 == i + 1) && !(q.1 + 1 == i && q.2.category == 2))) = ls') (k : mW G M d bc bs (pc + 1) ls' st h X) : mW G M d bc bs pc ls (.long x :: st) h X := by
  intro p e R s m args below meth c A n0 ad0 Q hC hA hE ad H locs cells slots lr z
  refine lv_lstore_n hC.1 hC.2.1 hd hi z.2.2.2.1 hn rfl (fun lr2 hl2 => ?_)
  rw [mm_lm_f2] at hl2
  exact k p e R s m args below meth c A n0 ad0 Q hC hA hE ad H locs cells slots lr2 (z.lt (by rw [← hl]; exact hl2) (mm_lf (mm_h1 z.vs) z.vl hl) (mm_t1 z.vs))
theorem mw_lstore {i : Nat} {x : Int64} {ls' : List (Nat × Value)} (hd : decode M.2.1 pc = .ok (.lstore i, 2)) (hn : i + 1 < M.2.2.1) (hl : (i, Value.long x) :: ls.filter (fun q => !(q.1 == i) && (!(q.1 == i + 1) && !(q.1 + 1 == i && q.2.category == 2))) = ls') (k : mW G M d bc bs (pc + 2) ls' st h X) : mW G M d bc bs pc ls (.long x :: st) h X := by
  intro p e R s m args below meth c A n0 ad0 Q hC hA hE ad H locs cells slots lr z
  refine lv_lstore hC.1 hC.2.1 hd z.2.2.2.1 hn rfl (fun lr2 hl2 => ?_)
  rw [mm_lm_f2] at hl2
  exact k p e R s m args below meth c A n0 ad0 Q hC hA hE ad H locs cells slots lr2 (z.lt (by rw [← hl]; exact hl2) (mm_lf (mm_h1 z.vs) z.vl hl) (mm_t1 z.vs))
theorem mw_astore_n {kk : Fin 4} {i : Nat} {x : Nat} {ls' : List (Nat × Value)} (hd : decode M.2.1 pc = .ok (.astore_n kk, 1)) (hi : (kk : Nat) = i) (hn : i < M.2.2.1) (hl : (i, Value.ref x) :: ls.filter (fun q => !(q.1 == i) && !(q.1 + 1 == i && q.2.category == 2)) = ls') (k : mW G M d bc bs (pc + 1) ls' st h X) : mW G M d bc bs pc ls (.ref x :: st) h X := by
  intro p e R s m args below meth c A n0 ad0 Q hC hA hE ad H locs cells slots lr z
  refine lv_astore_n hC.1 hC.2.1 hd hi z.2.2.2.1 hn rfl (fun lr2 hl2 => ?_)
  rw [mm_lm_f1] at hl2
  exact k p e R s m args below meth c A n0 ad0 Q hC hA hE ad H locs cells slots lr2 (z.lt (by rw [← hl]; exact hl2) (mm_lf (mm_h1 z.vs) z.vl hl) (mm_t1 z.vs))
theorem mw_astore {i : Nat} {x : Nat} {ls' : List (Nat × Value)} (hd : decode M.2.1 pc = .ok (.astore i, 2)) (hn : i < M.2.2.1) (hl : (i, Value.ref x) :: ls.filter (fun q => !(q.1 == i) && !(q.1 + 1 == i && q.2.category == 2)) = ls') (k : mW G M d bc bs (pc + 2) ls' st h X) : mW G M d bc bs pc ls (.ref x :: st) h X := by
  intro p e R s m args below meth c A n0 ad0 Q hC hA hE ad H locs cells slots lr z
  refine lv_astore hC.1 hC.2.1 hd z.2.2.2.1 hn rfl (fun lr2 hl2 => ?_)
  rw [mm_lm_f1] at hl2
  exact k p e R s m args below meth c A n0 ad0 Q hC hA hE ad H locs cells slots lr2 (z.lt (by rw [← hl]; exact hl2) (mm_lf (mm_h1 z.vs) z.vl hl) (mm_t1 z.vs))
theorem mw_iinc {i : Nat} {n : Int} {x v : Int32} {ls' : List (Nat × Value)} (hd : decode M.2.1 pc = .ok (.iinc i n, 3)) (q : Nat) (hq : ls[q]? = some (i, .int x)) (hv : x + Int32.ofInt n = v) (hn : i < M.2.2.1) (hl : (i, Value.int v) :: ls.filter (fun q => !(q.1 == i) && !(q.1 + 1 == i && q.2.category == 2)) = ls') (k : mW G M d bc bs (pc + 3) ls' st h X) : mW G M d bc bs pc ls st h X := by
  intro p e R s m args below meth c A n0 ad0 Q hC hA hE ad H locs cells slots lr z
  refine lv_iinc hC.1 hC.2.1 hd z.2.2.2.1 (mm_lm_at hq) hv hn rfl (fun lr2 hl2 => ?_)
  rw [mm_lm_f1] at hl2
  exact k p e R s m args below meth c A n0 ad0 Q hC hA hE ad H locs cells slots lr2 (z.lt (by rw [← hl]; exact hl2) (mm_lf (mm_vi _ _) z.vl hl) z.vs)
theorem mw_iadd {x y : Int32} (hd : decode M.2.1 pc = .ok (.iadd, 1)) (k : mW G M d bc bs (pc + 1) ls (.int (x + y) :: st) h X) : mW G M d bc bs pc ls (.int y :: .int x :: st) h X := by
  intro p e R s m args below meth c A n0 ad0 Q hC hA hE ad H locs cells slots lr z
  exact lv_iadd hC.1 hC.2.1 hd (k p e R s m args below meth c A n0 ad0 Q hC hA hE ad H locs cells slots lr (z.sk (mm_c1 (mm_vi _ _) (mm_t1 (mm_t1 z.vs)))))
theorem mw_isub {x y : Int32} (hd : decode M.2.1 pc = .ok (.isub, 1)) (k : mW G M d bc bs (pc + 1) ls (.int (x - y) :: st) h X) : mW G M d bc bs pc ls (.int y :: .int x :: st) h X := by
  intro p e R s m args below meth c A n0 ad0 Q hC hA hE ad H locs cells slots lr z
  exact lv_isub hC.1 hC.2.1 hd (k p e R s m args below meth c A n0 ad0 Q hC hA hE ad H locs cells slots lr (z.sk (mm_c1 (mm_vi _ _) (mm_t1 (mm_t1 z.vs)))))
theorem mw_imul {x y : Int32} (hd : decode M.2.1 pc = .ok (.imul, 1)) (k : mW G M d bc bs (pc + 1) ls (.int (x * y) :: st) h X) : mW G M d bc bs pc ls (.int y :: .int x :: st) h X := by
  intro p e R s m args below meth c A n0 ad0 Q hC hA hE ad H locs cells slots lr z
  exact lv_imul hC.1 hC.2.1 hd (k p e R s m args below meth c A n0 ad0 Q hC hA hE ad H locs cells slots lr (z.sk (mm_c1 (mm_vi _ _) (mm_t1 (mm_t1 z.vs)))))
theorem mw_iand {x y : Int32} (hd : decode M.2.1 pc = .ok (.iand, 1)) (k : mW G M d bc bs (pc + 1) ls (.int (x &&& y) :: st) h X) : mW G M d bc bs pc ls (.int y :: .int x :: st) h X := by
  intro p e R s m args below meth c A n0 ad0 Q hC hA hE ad H locs cells slots lr z
  exact lv_iand hC.1 hC.2.1 hd (k p e R s m args below meth c A n0 ad0 Q hC hA hE ad H locs cells slots lr (z.sk (mm_c1 (mm_vi _ _) (mm_t1 (mm_t1 z.vs)))))
theorem mw_ior {x y : Int32} (hd : decode M.2.1 pc = .ok (.ior, 1)) (k : mW G M d bc bs (pc + 1) ls (.int (x ||| y) :: st) h X) : mW G M d bc bs pc ls (.int y :: .int x :: st) h X := by
  intro p e R s m args below meth c A n0 ad0 Q hC hA hE ad H locs cells slots lr z
  exact lv_ior hC.1 hC.2.1 hd (k p e R s m args below meth c A n0 ad0 Q hC hA hE ad H locs cells slots lr (z.sk (mm_c1 (mm_vi _ _) (mm_t1 (mm_t1 z.vs)))))
theorem mw_ixor {x y : Int32} (hd : decode M.2.1 pc = .ok (.ixor, 1)) (k : mW G M d bc bs (pc + 1) ls (.int (x ^^^ y) :: st) h X) : mW G M d bc bs pc ls (.int y :: .int x :: st) h X := by
  intro p e R s m args below meth c A n0 ad0 Q hC hA hE ad H locs cells slots lr z
  exact lv_ixor hC.1 hC.2.1 hd (k p e R s m args below meth c A n0 ad0 Q hC hA hE ad H locs cells slots lr (z.sk (mm_c1 (mm_vi _ _) (mm_t1 (mm_t1 z.vs)))))
theorem mw_ishl {x y : Int32} (hd : decode M.2.1 pc = .ok (.ishl, 1)) (k : mW G M d bc bs (pc + 1) ls (.int (x <<< (y &&& 31)) :: st) h X) : mW G M d bc bs pc ls (.int y :: .int x :: st) h X := by
  intro p e R s m args below meth c A n0 ad0 Q hC hA hE ad H locs cells slots lr z
  exact lv_ishl hC.1 hC.2.1 hd (k p e R s m args below meth c A n0 ad0 Q hC hA hE ad H locs cells slots lr (z.sk (mm_c1 (mm_vi _ _) (mm_t1 (mm_t1 z.vs)))))
theorem mw_ishr {x y : Int32} (hd : decode M.2.1 pc = .ok (.ishr, 1)) (k : mW G M d bc bs (pc + 1) ls (.int (x >>> (y &&& 31)) :: st) h X) : mW G M d bc bs pc ls (.int y :: .int x :: st) h X := by
  intro p e R s m args below meth c A n0 ad0 Q hC hA hE ad H locs cells slots lr z
  exact lv_ishr hC.1 hC.2.1 hd (k p e R s m args below meth c A n0 ad0 Q hC hA hE ad H locs cells slots lr (z.sk (mm_c1 (mm_vi _ _) (mm_t1 (mm_t1 z.vs)))))
theorem mw_idiv {x y : Int32} (hd : decode M.2.1 pc = .ok (.idiv, 1)) (hne : ¬ y = 0) (k : mW G M d bc bs (pc + 1) ls (.int (x / y) :: st) h X) : mW G M d bc bs pc ls (.int y :: .int x :: st) h X := by
  intro p e R s m args below meth c A n0 ad0 Q hC hA hE ad H locs cells slots lr z
  exact lv_idiv hC.1 hC.2.1 hd hne (k p e R s m args below meth c A n0 ad0 Q hC hA hE ad H locs cells slots lr (z.sk (mm_c1 (mm_vi _ _) (mm_t1 (mm_t1 z.vs)))))
theorem mw_irem {x y : Int32} (hd : decode M.2.1 pc = .ok (.irem, 1)) (hne : ¬ y = 0) (k : mW G M d bc bs (pc + 1) ls (.int (x - x / y * y) :: st) h X) : mW G M d bc bs pc ls (.int y :: .int x :: st) h X := by
  intro p e R s m args below meth c A n0 ad0 Q hC hA hE ad H locs cells slots lr z
  exact lv_irem hC.1 hC.2.1 hd hne (k p e R s m args below meth c A n0 ad0 Q hC hA hE ad H locs cells slots lr (z.sk (mm_c1 (mm_vi _ _) (mm_t1 (mm_t1 z.vs)))))
theorem mw_ineg {x : Int32} (hd : decode M.2.1 pc = .ok (.ineg, 1)) (k : mW G M d bc bs (pc + 1) ls (.int (-x) :: st) h X) : mW G M d bc bs pc ls (.int x :: st) h X := by
  intro p e R s m args below meth c A n0 ad0 Q hC hA hE ad H locs cells slots lr z
  exact lv_ineg hC.1 hC.2.1 hd (k p e R s m args below meth c A n0 ad0 Q hC hA hE ad H locs cells slots lr (z.sk (mm_c1 (mm_vi _ _) (mm_t1 z.vs))))
theorem mw_ladd {x y : Int64} (hd : decode M.2.1 pc = .ok (.ladd, 1)) (k : mW G M d bc bs (pc + 1) ls (.long (x + y) :: st) h X) : mW G M d bc bs pc ls (.long y :: .long x :: st) h X := by
  intro p e R s m args below meth c A n0 ad0 Q hC hA hE ad H locs cells slots lr z
  exact lv_ladd hC.1 hC.2.1 hd (k p e R s m args below meth c A n0 ad0 Q hC hA hE ad H locs cells slots lr (z.sk (mm_c1 (mm_vl _ _) (mm_t1 (mm_t1 z.vs)))))
theorem mw_land {x y : Int64} (hd : decode M.2.1 pc = .ok (.land, 1)) (k : mW G M d bc bs (pc + 1) ls (.long (x &&& y) :: st) h X) : mW G M d bc bs pc ls (.long y :: .long x :: st) h X := by
  intro p e R s m args below meth c A n0 ad0 Q hC hA hE ad H locs cells slots lr z
  exact lv_land hC.1 hC.2.1 hd (k p e R s m args below meth c A n0 ad0 Q hC hA hE ad H locs cells slots lr (z.sk (mm_c1 (mm_vl _ _) (mm_t1 (mm_t1 z.vs)))))
theorem mw_lor {x y : Int64} (hd : decode M.2.1 pc = .ok (.lor, 1)) (k : mW G M d bc bs (pc + 1) ls (.long (x ||| y) :: st) h X) : mW G M d bc bs pc ls (.long y :: .long x :: st) h X := by
  intro p e R s m args below meth c A n0 ad0 Q hC hA hE ad H locs cells slots lr z
  exact lv_lor hC.1 hC.2.1 hd (k p e R s m args below meth c A n0 ad0 Q hC hA hE ad H locs cells slots lr (z.sk (mm_c1 (mm_vl _ _) (mm_t1 (mm_t1 z.vs)))))
theorem mw_lshl {x : Int64} {y : Int32} (hd : decode M.2.1 pc = .ok (.lshl, 1)) (k : mW G M d bc bs (pc + 1) ls (.long (x <<< (y.toInt64 &&& 63)) :: st) h X) : mW G M d bc bs pc ls (.int y :: .long x :: st) h X := by
  intro p e R s m args below meth c A n0 ad0 Q hC hA hE ad H locs cells slots lr z
  exact lv_lshl hC.1 hC.2.1 hd rfl (k p e R s m args below meth c A n0 ad0 Q hC hA hE ad H locs cells slots lr (z.sk (mm_c1 (mm_vl _ _) (mm_t1 (mm_t1 z.vs)))))
theorem mw_lshr {x : Int64} {y : Int32} (hd : decode M.2.1 pc = .ok (.lshr, 1)) (k : mW G M d bc bs (pc + 1) ls (.long (x >>> (y.toInt64 &&& 63)) :: st) h X) : mW G M d bc bs pc ls (.int y :: .long x :: st) h X := by
  intro p e R s m args below meth c A n0 ad0 Q hC hA hE ad H locs cells slots lr z
  exact lv_lshr hC.1 hC.2.1 hd rfl (k p e R s m args below meth c A n0 ad0 Q hC hA hE ad H locs cells slots lr (z.sk (mm_c1 (mm_vl _ _) (mm_t1 (mm_t1 z.vs)))))
theorem mw_lushr {x : Int64} {y : Int32} (hd : decode M.2.1 pc = .ok (.lushr, 1)) (k : mW G M d bc bs (pc + 1) ls (.long ((x.toUInt64 >>> (y.toInt64.toUInt64 &&& Int64.toUInt64 63)).toInt64) :: st) h X) : mW G M d bc bs pc ls (.int y :: .long x :: st) h X := by
  intro p e R s m args below meth c A n0 ad0 Q hC hA hE ad H locs cells slots lr z
  exact lv_lushr hC.1 hC.2.1 hd rfl (k p e R s m args below meth c A n0 ad0 Q hC hA hE ad H locs cells slots lr (z.sk (mm_c1 (mm_vl _ _) (mm_t1 (mm_t1 z.vs)))))
theorem mw_i2l {x : Int32} (hd : decode M.2.1 pc = .ok (.i2l, 1)) (k : mW G M d bc bs (pc + 1) ls (.long x.toInt64 :: st) h X) : mW G M d bc bs pc ls (.int x :: st) h X := by
  intro p e R s m args below meth c A n0 ad0 Q hC hA hE ad H locs cells slots lr z
  exact lv_i2l hC.1 hC.2.1 hd rfl (k p e R s m args below meth c A n0 ad0 Q hC hA hE ad H locs cells slots lr (z.sk (mm_c1 (mm_vl _ _) (mm_t1 z.vs))))
theorem mw_l2i {x : Int64} (hd : decode M.2.1 pc = .ok (.l2i, 1)) (k : mW G M d bc bs (pc + 1) ls (.int x.toInt32 :: st) h X) : mW G M d bc bs pc ls (.long x :: st) h X := by
  intro p e R s m args below meth c A n0 ad0 Q hC hA hE ad H locs cells slots lr z
  exact lv_l2i hC.1 hC.2.1 hd rfl (k p e R s m args below meth c A n0 ad0 Q hC hA hE ad H locs cells slots lr (z.sk (mm_c1 (mm_vi _ _) (mm_t1 z.vs))))
theorem mw_lcmp {x y : Int64} (hd : decode M.2.1 pc = .ok (.lcmp, 1)) (k : mW G M d bc bs (pc + 1) ls (.int (lg_cmp x y) :: st) h X) : mW G M d bc bs pc ls (.long y :: .long x :: st) h X := by
  intro p e R s m args below meth c A n0 ad0 Q hC hA hE ad H locs cells slots lr z
  exact W.lcmp hC.1 hC.2.1 hd (k p e R s m args below meth c A n0 ad0 Q hC hA hE ad H locs cells slots lr (z.sk (mm_c1 (mm_vi _ _) (mm_t1 (mm_t1 z.vs)))))
theorem mw_dup {v : Value} (hd : decode M.2.1 pc = .ok (.dup, 1)) (hv : v.category = 1) (k : mW G M d bc bs (pc + 1) ls (v :: v :: st) h X) : mW G M d bc bs pc ls (v :: st) h X := by
  intro p e R s m args below meth c A n0 ad0 Q hC hA hE ad H locs cells slots lr z
  exact lv_dup hC.1 hC.2.1 hd ((mm_cat ad v).trans hv) (k p e R s m args below meth c A n0 ad0 Q hC hA hE ad H locs cells slots lr (z.sk (mm_c1 (mm_h1 z.vs) z.vs)))
theorem mw_pop {v : Value} (hd : decode M.2.1 pc = .ok (.pop, 1)) (hv : v.category = 1) (k : mW G M d bc bs (pc + 1) ls st h X) : mW G M d bc bs pc ls (v :: st) h X := by
  intro p e R s m args below meth c A n0 ad0 Q hC hA hE ad H locs cells slots lr z
  exact lv_pop hC.1 hC.2.1 hd ((mm_cat ad v).trans hv) (k p e R s m args below meth c A n0 ad0 Q hC hA hE ad H locs cells slots lr (z.sk (mm_t1 z.vs)))
theorem mw_dup_x1 {v u : Value} (hd : decode M.2.1 pc = .ok (.dup_x1, 1)) (hv : v.category = 1) (hu : u.category = 1) (k : mW G M d bc bs (pc + 1) ls (v :: u :: v :: st) h X) : mW G M d bc bs pc ls (v :: u :: st) h X := by
  intro p e R s m args below meth c A n0 ad0 Q hC hA hE ad H locs cells slots lr z
  exact lv_dup_x1 hC.1 hC.2.1 hd ((mm_cat ad v).trans hv) ((mm_cat ad u).trans hu) (k p e R s m args below meth c A n0 ad0 Q hC hA hE ad H locs cells slots lr (z.sk (mm_c1 (mm_h1 z.vs) (mm_c1 (mm_h1 (mm_t1 z.vs)) (mm_c1 (mm_h1 z.vs) (mm_t1 (mm_t1 z.vs)))))))
theorem mw_dup2 {v u : Value} (hd : decode M.2.1 pc = .ok (.dup2, 1)) (hv : v.category = 1) (hu : u.category = 1) (k : mW G M d bc bs (pc + 1) ls (v :: u :: v :: u :: st) h X) : mW G M d bc bs pc ls (v :: u :: st) h X := by
  intro p e R s m args below meth c A n0 ad0 Q hC hA hE ad H locs cells slots lr z
  exact lv_dup2_11 hC.1 hC.2.1 hd ((mm_cat ad v).trans hv) ((mm_cat ad u).trans hu) (k p e R s m args below meth c A n0 ad0 Q hC hA hE ad H locs cells slots lr (z.sk (mm_c1 (mm_h1 z.vs) (mm_c1 (mm_h1 (mm_t1 z.vs)) z.vs))))
theorem mw_if_eq {x : Int32} {off : Int} {tgt : Nat} (hd : decode M.2.1 pc = .ok (.ifCond .eq off, 3)) (ht : (pc : Int) + off = (tgt : Int)) (kt : x = 0 → mW G M d bc bs tgt ls st h X) (kf : ¬ x = 0 → mW G M d bc bs (pc + 3) ls st h X) : mW G M d bc bs pc ls (.int x :: st) h X := by
  intro p e R s m args below meth c A n0 ad0 Q hC hA hE ad H locs cells slots lr z
  exact lv_if_eq hC.1 hC.2.1 hd ht (fun hh => kt hh p e R s m args below meth c A n0 ad0 Q hC hA hE ad H locs cells slots lr (z.sk (mm_t1 z.vs))) (fun hh => kf hh p e R s m args below meth c A n0 ad0 Q hC hA hE ad H locs cells slots lr (z.sk (mm_t1 z.vs)))
theorem mw_if_lt {x : Int32} {off : Int} {tgt : Nat} (hd : decode M.2.1 pc = .ok (.ifCond .lt off, 3)) (ht : (pc : Int) + off = (tgt : Int)) (kt : x < 0 → mW G M d bc bs tgt ls st h X) (kf : ¬ x < 0 → mW G M d bc bs (pc + 3) ls st h X) : mW G M d bc bs pc ls (.int x :: st) h X := by
  intro p e R s m args below meth c A n0 ad0 Q hC hA hE ad H locs cells slots lr z
  exact lv_if_lt hC.1 hC.2.1 hd ht (fun hh => kt hh p e R s m args below meth c A n0 ad0 Q hC hA hE ad H locs cells slots lr (z.sk (mm_t1 z.vs))) (fun hh => kf hh p e R s m args below meth c A n0 ad0 Q hC hA hE ad H locs cells slots lr (z.sk (mm_t1 z.vs)))
theorem mw_if_ge {x : Int32} {off : Int} {tgt : Nat} (hd : decode M.2.1 pc = .ok (.ifCond .ge off, 3)) (ht : (pc : Int) + off = (tgt : Int)) (kt : 0 ≤ x → mW G M d bc bs tgt ls st h X) (kf : ¬ 0 ≤ x → mW G M d bc bs (pc + 3) ls st h X) : mW G M d bc bs pc ls (.int x :: st) h X := by
  intro p e R s m args below meth c A n0 ad0 Q hC hA hE ad H locs cells slots lr z
  exact lv_if_ge hC.1 hC.2.1 hd ht (fun hh => kt hh p e R s m args below meth c A n0 ad0 Q hC hA hE ad H locs cells slots lr (z.sk (mm_t1 z.vs))) (fun hh => kf hh p e R s m args below meth c A n0 ad0 Q hC hA hE ad H locs cells slots lr (z.sk (mm_t1 z.vs)))
theorem mw_if_gt {x : Int32} {off : Int} {tgt : Nat} (hd : decode M.2.1 pc = .ok (.ifCond .gt off, 3)) (ht : (pc : Int) + off = (tgt : Int)) (kt : 0 < x → mW G M d bc bs tgt ls st h X) (kf : ¬ 0 < x → mW G M d bc bs (pc + 3) ls st h X) : mW G M d bc bs pc ls (.int x :: st) h X := by
  intro p e R s m args below meth c A n0 ad0 Q hC hA hE ad H locs cells slots lr z
  exact lv_if_gt hC.1 hC.2.1 hd ht (fun hh => kt hh p e R s m args below meth c A n0 ad0 Q hC hA hE ad H locs cells slots lr (z.sk (mm_t1 z.vs))) (fun hh => kf hh p e R s m args below meth c A n0 ad0 Q hC hA hE ad H locs cells slots lr (z.sk (mm_t1 z.vs)))
theorem mw_if_le {x : Int32} {off : Int} {tgt : Nat} (hd : decode M.2.1 pc = .ok (.ifCond .le off, 3)) (ht : (pc : Int) + off = (tgt : Int)) (kt : x ≤ 0 → mW G M d bc bs tgt ls st h X) (kf : ¬ x ≤ 0 → mW G M d bc bs (pc + 3) ls st h X) : mW G M d bc bs pc ls (.int x :: st) h X := by
  intro p e R s m args below meth c A n0 ad0 Q hC hA hE ad H locs cells slots lr z
  exact lv_if_le hC.1 hC.2.1 hd ht (fun hh => kt hh p e R s m args below meth c A n0 ad0 Q hC hA hE ad H locs cells slots lr (z.sk (mm_t1 z.vs))) (fun hh => kf hh p e R s m args below meth c A n0 ad0 Q hC hA hE ad H locs cells slots lr (z.sk (mm_t1 z.vs)))
theorem mw_if_ne {x : Int32} {off : Int} {tgt : Nat} (hd : decode M.2.1 pc = .ok (.ifCond .ne off, 3)) (ht : (pc : Int) + off = (tgt : Int)) (kt : ¬ x = 0 → mW G M d bc bs tgt ls st h X) (kf : x = 0 → mW G M d bc bs (pc + 3) ls st h X) : mW G M d bc bs pc ls (.int x :: st) h X := by
  intro p e R s m args below meth c A n0 ad0 Q hC hA hE ad H locs cells slots lr z
  exact lv_if_ne hC.1 hC.2.1 hd ht (fun hh => kt hh p e R s m args below meth c A n0 ad0 Q hC hA hE ad H locs cells slots lr (z.sk (mm_t1 z.vs))) (fun hh => kf hh p e R s m args below meth c A n0 ad0 Q hC hA hE ad H locs cells slots lr (z.sk (mm_t1 z.vs)))
theorem mw_icmp_eq {x y : Int32} {off : Int} {tgt : Nat} (hd : decode M.2.1 pc = .ok (.if_icmp .eq off, 3)) (ht : (pc : Int) + off = (tgt : Int)) (kt : x = y → mW G M d bc bs tgt ls st h X) (kf : ¬ x = y → mW G M d bc bs (pc + 3) ls st h X) : mW G M d bc bs pc ls (.int y :: .int x :: st) h X := by
  intro p e R s m args below meth c A n0 ad0 Q hC hA hE ad H locs cells slots lr z
  exact lv_icmp_eq hC.1 hC.2.1 hd ht (fun hh => kt hh p e R s m args below meth c A n0 ad0 Q hC hA hE ad H locs cells slots lr (z.sk (mm_t1 (mm_t1 z.vs)))) (fun hh => kf hh p e R s m args below meth c A n0 ad0 Q hC hA hE ad H locs cells slots lr (z.sk (mm_t1 (mm_t1 z.vs))))
theorem mw_icmp_lt {x y : Int32} {off : Int} {tgt : Nat} (hd : decode M.2.1 pc = .ok (.if_icmp .lt off, 3)) (ht : (pc : Int) + off = (tgt : Int)) (kt : x < y → mW G M d bc bs tgt ls st h X) (kf : ¬ x < y → mW G M d bc bs (pc + 3) ls st h X) : mW G M d bc bs pc ls (.int y :: .int x :: st) h X := by
  intro p e R s m args below meth c A n0 ad0 Q hC hA hE ad H locs cells slots lr z
  exact lv_icmp_lt hC.1 hC.2.1 hd ht (fun hh => kt hh p e R s m args below meth c A n0 ad0 Q hC hA hE ad H locs cells slots lr (z.sk (mm_t1 (mm_t1 z.vs)))) (fun hh => kf hh p e R s m args below meth c A n0 ad0 Q hC hA hE ad H locs cells slots lr (z.sk (mm_t1 (mm_t1 z.vs))))
theorem mw_icmp_ge {x y : Int32} {off : Int} {tgt : Nat} (hd : decode M.2.1 pc = .ok (.if_icmp .ge off, 3)) (ht : (pc : Int) + off = (tgt : Int)) (kt : y ≤ x → mW G M d bc bs tgt ls st h X) (kf : ¬ y ≤ x → mW G M d bc bs (pc + 3) ls st h X) : mW G M d bc bs pc ls (.int y :: .int x :: st) h X := by
  intro p e R s m args below meth c A n0 ad0 Q hC hA hE ad H locs cells slots lr z
  exact lv_icmp_ge hC.1 hC.2.1 hd ht (fun hh => kt hh p e R s m args below meth c A n0 ad0 Q hC hA hE ad H locs cells slots lr (z.sk (mm_t1 (mm_t1 z.vs)))) (fun hh => kf hh p e R s m args below meth c A n0 ad0 Q hC hA hE ad H locs cells slots lr (z.sk (mm_t1 (mm_t1 z.vs))))
theorem mw_icmp_gt {x y : Int32} {off : Int} {tgt : Nat} (hd : decode M.2.1 pc = .ok (.if_icmp .gt off, 3)) (ht : (pc : Int) + off = (tgt : Int)) (kt : y < x → mW G M d bc bs tgt ls st h X) (kf : ¬ y < x → mW G M d bc bs (pc + 3) ls st h X) : mW G M d bc bs pc ls (.int y :: .int x :: st) h X := by
  intro p e R s m args below meth c A n0 ad0 Q hC hA hE ad H locs cells slots lr z
  exact lv_icmp_gt hC.1 hC.2.1 hd ht (fun hh => kt hh p e R s m args below meth c A n0 ad0 Q hC hA hE ad H locs cells slots lr (z.sk (mm_t1 (mm_t1 z.vs)))) (fun hh => kf hh p e R s m args below meth c A n0 ad0 Q hC hA hE ad H locs cells slots lr (z.sk (mm_t1 (mm_t1 z.vs))))
theorem mw_icmp_le {x y : Int32} {off : Int} {tgt : Nat} (hd : decode M.2.1 pc = .ok (.if_icmp .le off, 3)) (ht : (pc : Int) + off = (tgt : Int)) (kt : x ≤ y → mW G M d bc bs tgt ls st h X) (kf : ¬ x ≤ y → mW G M d bc bs (pc + 3) ls st h X) : mW G M d bc bs pc ls (.int y :: .int x :: st) h X := by
  intro p e R s m args below meth c A n0 ad0 Q hC hA hE ad H locs cells slots lr z
  exact lv_icmp_le hC.1 hC.2.1 hd ht (fun hh => kt hh p e R s m args below meth c A n0 ad0 Q hC hA hE ad H locs cells slots lr (z.sk (mm_t1 (mm_t1 z.vs)))) (fun hh => kf hh p e R s m args below meth c A n0 ad0 Q hC hA hE ad H locs cells slots lr (z.sk (mm_t1 (mm_t1 z.vs))))
theorem mw_icmp_ne {x y : Int32} {off : Int} {tgt : Nat} (hd : decode M.2.1 pc = .ok (.if_icmp .ne off, 3)) (ht : (pc : Int) + off = (tgt : Int)) (kt : ¬ x = y → mW G M d bc bs tgt ls st h X) (kf : x = y → mW G M d bc bs (pc + 3) ls st h X) : mW G M d bc bs pc ls (.int y :: .int x :: st) h X := by
  intro p e R s m args below meth c A n0 ad0 Q hC hA hE ad H locs cells slots lr z
  exact lv_icmp_ne hC.1 hC.2.1 hd ht (fun hh => kt hh p e R s m args below meth c A n0 ad0 Q hC hA hE ad H locs cells slots lr (z.sk (mm_t1 (mm_t1 z.vs)))) (fun hh => kf hh p e R s m args below meth c A n0 ad0 Q hC hA hE ad H locs cells slots lr (z.sk (mm_t1 (mm_t1 z.vs))))
theorem mw_goto {off : Int} {tgt : Nat} (hd : decode M.2.1 pc = .ok (.goto off, 3)) (ht : (pc : Int) + off = (tgt : Int)) (k : mW G M d bc bs tgt ls st h X) : mW G M d bc bs pc ls st h X := by
  intro p e R s m args below meth c A n0 ad0 Q hC hA hE ad H locs cells slots lr z
  exact lv_goto hC.1 hC.2.1 hd ht (k p e R s m args below meth c A n0 ad0 Q hC hA hE ad H locs cells slots lr z)
theorem mw_ifnonnull {off : Int} {tgt a : Nat} (hd : decode M.2.1 pc = .ok (.ifnonnull off, 3)) (ht : (pc : Int) + off = (tgt : Int)) (k : mW G M d bc bs tgt ls st h X) : mW G M d bc bs pc ls (.ref a :: st) h X := by
  intro p e R s m args below meth c A n0 ad0 Q hC hA hE ad H locs cells slots lr z
  exact lv_ifnonnull hC.1 hC.2.1 hd ht (k p e R s m args below meth c A n0 ad0 Q hC hA hE ad H locs cells slots lr (z.sk (mm_t1 z.vs)))
theorem mw_ifnonnullN {off : Int} (hd : decode M.2.1 pc = .ok (.ifnonnull off, 3)) (k : mW G M d bc bs (pc + 3) ls st h X) : mW G M d bc bs pc ls (.null :: st) h X := by
  intro p e R s m args below meth c A n0 ad0 Q hC hA hE ad H locs cells slots lr z
  exact lv_ifnonnullN hC.1 hC.2.1 hd (k p e R s m args below meth c A n0 ad0 Q hC hA hE ad H locs cells slots lr (z.sk (mm_t1 z.vs)))
theorem mm_S.fin {R : Room} {s : State} {A : Nat → Prop} {n0 : Nat} {ad0 ad : Nat → Nat} {H : Heap} {locs : List Loc} {cells slots : Nat} {lr : Array Slot} (z : mm_S G M bc bs R s A ls st h n0 ad0 ad H locs cells slots lr) : mm_S G M 0 0 R s A [] [] h n0 ad0 ad H locs cells slots lr :=
  ⟨z.1, z.2.1, z.2.2.1, ⟨z.2.2.2.1.1, z.2.2.2.1.2.1, fun _ hq => absurd hq List.not_mem_nil⟩, z.2.2.2.2.1, fun _ hq => absurd hq List.not_mem_nil, fun _ hq => absurd hq List.not_mem_nil, Nat.le_trans (Nat.add_le_add_left (Nat.zero_le _) _) z.2.2.2.2.2.2.2.1, Nat.le_trans (Nat.add_le_add_left (Nat.zero_le _) _) z.2.2.2.2.2.2.2.2.1, z.2.2.2.2.2.2.2.2.2⟩
theorem mw_vret (hd : decode M.2.1 pc = .ok (.return_, 1)) (hr : M.2.2.2 = none) (hX : X (.inl none) h) : mW G M d bc bs pc ls [] h X := by
  intro p e R s m args below meth c A n0 ad0 Q hC hA hE ad H locs cells slots lr z
  exact (hE h ad H locs cells slots lr none hX (fun _ hq => absurd hq List.not_mem_nil) z.fin).1 rfl hr pc hd
theorem mw_iret {x : Int32} {ty : FieldType} (hd : decode M.2.1 pc = .ok (.ireturn, 1)) (hr : M.2.2.2 = some ty) (hn : narrow ty (.int x) = .int x) (hX : X (.inl (some (.int x))) h) : mW G M d bc bs pc ls [.int x] h X := by
  intro p e R s m args below meth c A n0 ad0 Q hC hA hE ad H locs cells slots lr z
  exact (hE h ad H locs cells slots lr (some (.int x)) hX (fun y hy => by cases List.mem_singleton.mp hy; exact mm_vi _ _) z.fin).2.1 x ty rfl hr hn pc hd
theorem mw_lret {x : Int64} (hd : decode M.2.1 pc = .ok (.lreturn, 1)) (hr : M.2.2.2 = some .long) (hX : X (.inl (some (.long x))) h) : mW G M d bc bs pc ls [.long x] h X := by
  intro p e R s m args below meth c A n0 ad0 Q hC hA hE ad H locs cells slots lr z
  exact (hE h ad H locs cells slots lr (some (.long x)) hX (fun y hy => by cases List.mem_singleton.mp hy; exact mm_vl _ _) z.fin).2.2.1 x rfl hr pc hd
theorem mw_aret {x : Nat} {n : String} (hd : decode M.2.1 pc = .ok (.areturn, 1)) (hr : M.2.2.2 = some (.object n)) (hX : X (.inl (some (.ref x))) h) : mW G M d bc bs pc ls [.ref x] h X := by
  intro p e R s m args below meth c A n0 ad0 Q hC hA hE ad H locs cells slots lr z
  exact (hE h ad H locs cells slots lr (some (.ref x)) hX (fun y hy => by cases List.mem_singleton.mp hy; exact mm_h1 z.vs) z.fin).2.2.2 x n rfl hr pc hd
end MMR
section MMH
variable {G : mm_G} {M : mm_M} {d bc bs pc : Nat} {ls : List (Nat × Value)} {st : List Value} {sh : mm_Sh} {I : Nat → Nat → Int32} {J : Nat → Nat → Int64} {F : Nat → Nat → Option Nat} {V : Nat → Nat → Value} {X : mm_X}
theorem mm_ce_eq {tc : Nat → ClassId} {ad : Nat → Nat} {h h' : mm_H} {k : Nat} (e1 : h'.2.1 k = h.2.1 k) (e2 : h'.2.2.1 k = h.2.2.1 k) (e3 : h'.2.2.2.1 k = h.2.2.2.1 k) (e4 : h'.2.2.2.2 k = h.2.2.2.2 k) (x : (Nat × Nat) ⊕ Nat) : mm_ce tc ad h' k x = mm_ce tc ad h k x := by
  match x with
  | .inl (0, m) => simp only [mm_ce, e1]
  | .inl (1, m) => simp only [mm_ce, e1]
  | .inl (2, m) => simp only [mm_ce, e2]
  | .inl (t + 3, m) => simp only [mm_ce, e3]
  | .inr ci => simp only [mm_ce, e4]
/-- the state behind a write -/
theorem mm_S.wr {h h' : mm_H} {R : Room} {s : State} {A : Nat → Prop} {n0 : Nat} {ad0 ad : Nat → Nat} {H H1 : Heap} {locs locs1 : List Loc} {cells slots : Nat} {lr : Array Slot} {st' : List Value} (z : mm_S G M bc bs R s A ls st h n0 ad0 ad H locs cells slots lr)
    (hs : h'.1 = h.1) (ho : mm_ok h.1.length h') (hv : ∀ v ∈ st', mm_vo h.1.length v) (hP : va_P G.2.1 mm_cl (mm_ws G.2.2.1 ad h') H1) (hD : va_D A (mm_ws G.2.2.1 ad h')) (hS : va_S A s.heap H1 locs1) : mm_S G M bc bs R s A ls st' h' n0 ad0 ad H1 locs1 cells slots lr :=
  ⟨hP, hD, hS, z.2.2.2.1, by rw [hs]; exact ho, by rw [hs]; exact z.2.2.2.2.2.1, by rw [hs]; exact hv, z.2.2.2.2.2.2.2.1, z.2.2.2.2.2.2.2.2.1, by rw [hs]; exact z.2.2.2.2.2.2.2.2.2⟩
theorem mw_iald {a n : Nat} {i : Int32} (hd : decode M.2.1 pc = .ok (.iaload, 1)) (hs : sh[a]? = some (.inl (0, n))) (hin : vp_in i n) (k : mW G M d bc bs (pc + 1) ls (.int (I a i.toNatClampNeg) :: st) (sh, I, J, F, V) X) : mW G M d bc bs pc ls (.int i :: .ref a :: st) (sh, I, J, F, V) X := by
  intro p e R s m args below meth c A n0 ad0 Q hC hA hE ad H locs cells slots lr z
  exact va_iald hC.1 hC.2.1 hC.2.2.2.2.2.2.2.2.2.1 z.1 a 0 (mm_ws_get (h := (sh, I, J, F, V)) hs) rfl hin hd (k p e R s m args below meth c A n0 ad0 Q hC hA hE ad H locs cells slots lr (z.sk (mm_c1 (mm_vi _ _) (mm_t1 (mm_t1 z.vs)))))
theorem mw_zald {a n : Nat} {i : Int32} (hd : decode M.2.1 pc = .ok (.baload, 1)) (hs : sh[a]? = some (.inl (1, n))) (hin : vp_in i n) (k : mW G M d bc bs (pc + 1) ls (.int (I a i.toNatClampNeg) :: st) (sh, I, J, F, V) X) : mW G M d bc bs pc ls (.int i :: .ref a :: st) (sh, I, J, F, V) X := by
  intro p e R s m args below meth c A n0 ad0 Q hC hA hE ad H locs cells slots lr z
  exact va_zald hC.1 hC.2.1 hC.2.2.2.2.2.2.2.2.2.1 z.1 a 1 (mm_ws_get (h := (sh, I, J, F, V)) hs) rfl hin hd (k p e R s m args below meth c A n0 ad0 Q hC hA hE ad H locs cells slots lr (z.sk (mm_c1 (mm_vi _ _) (mm_t1 (mm_t1 z.vs)))))
theorem mw_lald {a n : Nat} {i : Int32} (hd : decode M.2.1 pc = .ok (.laload, 1)) (hs : sh[a]? = some (.inl (2, n))) (hin : vp_in i n) (k : mW G M d bc bs (pc + 1) ls (.long (J a i.toNatClampNeg) :: st) (sh, I, J, F, V) X) : mW G M d bc bs pc ls (.int i :: .ref a :: st) (sh, I, J, F, V) X := by
  intro p e R s m args below meth c A n0 ad0 Q hC hA hE ad H locs cells slots lr z
  exact va_lald hC.1 hC.2.1 hC.2.2.2.2.2.2.2.2.2.1 z.1 a 2 (mm_ws_get (h := (sh, I, J, F, V)) hs) rfl hin hd (k p e R s m args below meth c A n0 ad0 Q hC hA hE ad H locs cells slots lr (z.sk (mm_c1 (mm_vl _ _) (mm_t1 (mm_t1 z.vs)))))
theorem mw_iast {a n : Nat} {i : Int32} {x : Int32} (hd : decode M.2.1 pc = .ok (.iastore, 1)) (hs : sh[a]? = some (.inl (0, n))) (hin : vp_in i n) (k : mW G M d bc bs (pc + 1) ls st (sh, va_up I a (upd (I a) i.toNatClampNeg x), J, F, V) X) : mW G M d bc bs pc ls (.int x :: .int i :: .ref a :: st) (sh, I, J, F, V) X := by
  intro p e R s m args below meth c A n0 ad0 Q hC hA hE ad H locs cells slots lr z
  refine va_iast hC.1 hC.2.1 hC.2.2.2.2.2.2.2.2.2.1 z.1 z.2.1 z.2.2.1 a 0 (mm_ws_get (h := (sh, I, J, F, V)) hs) rfl hin hd (fun H1 locs1 hP hD hS => ?_)
  have e1 := mm_ws_set (tc := G.2.2.1) (ad := ad) (h := (sh, I, J, F, V)) (h' := (sh, va_up I a (upd (I a) i.toNatClampNeg x), J, F, V)) rfl hs (fun j hj y => mm_ce_eq (h := (sh, I, J, F, V)) (h' := (sh, va_up I a (upd (I a) i.toNatClampNeg x), J, F, V)) (va_up_ne _ _ hj) rfl rfl rfl y)
  have e2 : mm_ce G.2.2.1 ad (sh, va_up I a (upd (I a) i.toNatClampNeg x), J, F, V) a (.inl (0, n)) = .inl (G.2.2.1 0, n, .inl (upd (I a) i.toNatClampNeg x)) := by simp only [mm_ce, va_up_self]
  rw [e2] at e1
  rw [e1] at hP hD
  exact k p e R s m args below meth c A n0 ad0 Q hC hA hE ad H1 locs1 cells slots lr (z.wr rfl z.2.2.2.2.1 (mm_t1 (mm_t1 (mm_t1 z.vs))) hP hD hS)
theorem mw_zast {a n : Nat} {i : Int32} {x : Int32} (hd : decode M.2.1 pc = .ok (.bastore, 1)) (hs : sh[a]? = some (.inl (1, n))) (hin : vp_in i n) (k : mW G M d bc bs (pc + 1) ls st (sh, va_up I a (upd (I a) i.toNatClampNeg (vp_nar .boolean x)), J, F, V) X) : mW G M d bc bs pc ls (.int x :: .int i :: .ref a :: st) (sh, I, J, F, V) X := by
  intro p e R s m args below meth c A n0 ad0 Q hC hA hE ad H locs cells slots lr z
  refine va_zast hC.1 hC.2.1 hC.2.2.2.2.2.2.2.2.2.1 z.1 z.2.1 z.2.2.1 a 1 (mm_ws_get (h := (sh, I, J, F, V)) hs) rfl hin hd (fun H1 locs1 hP hD hS => ?_)
  have e1 := mm_ws_set (tc := G.2.2.1) (ad := ad) (h := (sh, I, J, F, V)) (h' := (sh, va_up I a (upd (I a) i.toNatClampNeg (vp_nar .boolean x)), J, F, V)) rfl hs (fun j hj y => mm_ce_eq (h := (sh, I, J, F, V)) (h' := (sh, va_up I a (upd (I a) i.toNatClampNeg (vp_nar .boolean x)), J, F, V)) (va_up_ne _ _ hj) rfl rfl rfl y)
  have e2 : mm_ce G.2.2.1 ad (sh, va_up I a (upd (I a) i.toNatClampNeg (vp_nar .boolean x)), J, F, V) a (.inl (1, n)) = .inl (G.2.2.1 1, n, .inl (upd (I a) i.toNatClampNeg (vp_nar .boolean x))) := by simp only [mm_ce, va_up_self]
  rw [e2] at e1
  rw [e1] at hP hD
  exact k p e R s m args below meth c A n0 ad0 Q hC hA hE ad H1 locs1 cells slots lr (z.wr rfl z.2.2.2.2.1 (mm_t1 (mm_t1 (mm_t1 z.vs))) hP hD hS)
theorem mw_last {a n : Nat} {i : Int32} {x : Int64} (hd : decode M.2.1 pc = .ok (.lastore, 1)) (hs : sh[a]? = some (.inl (2, n))) (hin : vp_in i n) (k : mW G M d bc bs (pc + 1) ls st (sh, I, va_up J a (vp_updL (J a) i.toNatClampNeg x), F, V) X) : mW G M d bc bs pc ls (.long x :: .int i :: .ref a :: st) (sh, I, J, F, V) X := by
  intro p e R s m args below meth c A n0 ad0 Q hC hA hE ad H locs cells slots lr z
  refine va_last hC.1 hC.2.1 hC.2.2.2.2.2.2.2.2.2.1 z.1 z.2.1 z.2.2.1 a 2 (mm_ws_get (h := (sh, I, J, F, V)) hs) rfl hin hd (fun H1 locs1 hP hD hS => ?_)
  have e1 := mm_ws_set (tc := G.2.2.1) (ad := ad) (h := (sh, I, J, F, V)) (h' := (sh, I, va_up J a (vp_updL (J a) i.toNatClampNeg x), F, V)) rfl hs (fun j hj y => mm_ce_eq (h := (sh, I, J, F, V)) (h' := (sh, I, va_up J a (vp_updL (J a) i.toNatClampNeg x), F, V)) rfl (va_up_ne _ _ hj) rfl rfl y)
  have e2 : mm_ce G.2.2.1 ad (sh, I, va_up J a (vp_updL (J a) i.toNatClampNeg x), F, V) a (.inl (2, n)) = .inl (G.2.2.1 2, n, .inr (.inl (vp_updL (J a) i.toNatClampNeg x))) := by simp only [mm_ce, va_up_self]
  rw [e2] at e1
  rw [e1] at hP hD
  exact k p e R s m args below meth c A n0 ad0 Q hC hA hE ad H1 locs1 cells slots lr (z.wr rfl z.2.2.2.2.1 (mm_t1 (mm_t1 (mm_t1 z.vs))) hP hD hS)
theorem mm_rf (ad : Nat → Nat) (o : Option Nat) : mm_rv ad (va_rf o) = va_rf (o.map ad) := by cases o <;> rfl
theorem mw_aald {t a n : Nat} {C : String} {i : Int32} (hd : decode M.2.1 pc = .ok (.aaload, 1)) (hs : sh[a]? = some (.inl (t + 3, n))) (ht : (mm_tys G.2.2.1)[t + 3]? = some (G.2.2.1 (t + 3), .object C)) (hin : vp_in i n) (k : mW G M d bc bs (pc + 1) ls (va_rf (F a i.toNatClampNeg) :: st) (sh, I, J, F, V) X) : mW G M d bc bs pc ls (.int i :: .ref a :: st) (sh, I, J, F, V) X := by
  intro p e R s m args below meth c A n0 ad0 Q hC hA hE ad H locs cells slots lr z
  refine va_aldq hC.1 hC.2.1 hC.2.2.2.2.2.2.2.2.2.1 z.1 a (t + 3) (mm_ws_get (h := (sh, I, J, F, V)) hs) ht hin hd ?_
  have k2 := k p e R s m args below meth c A n0 ad0 Q hC hA hE ad H locs cells slots lr (z.sk (mm_c1 (fun r hr => by
    cases hF : F a i.toNatClampNeg with
    | none => rw [hF] at hr; cases hr
    | some q => rw [hF] at hr; cases hr; exact z.2.2.2.2.1.1 _ _ _ hF) (mm_t1 (mm_t1 z.vs))))
  rw [List.map_cons, mm_rf] at k2
  exact k2
theorem mw_alen {t a n : Nat} {ty : FieldType} {v : Int32} (hd : decode M.2.1 pc = .ok (.arraylength, 1)) (hs : sh[a]? = some (.inl (t, n))) (ht : (mm_tys G.2.2.1)[t]? = some (G.2.2.1 t, ty)) (hv : Int32.ofNat n = v) (k : mW G M d bc bs (pc + 1) ls (.int v :: st) (sh, I, J, F, V) X) : mW G M d bc bs pc ls (.ref a :: st) (sh, I, J, F, V) X := by
  intro p e R s m args below meth c A n0 ad0 Q hC hA hE ad H locs cells slots lr z
  match t, hs, ht with
  | 0, hs, ht => exact va_alen hC.1 hC.2.1 hC.2.2.2.2.2.2.2.2.2.1 z.1 a 0 (mm_ws_get (h := (sh, I, J, F, V)) hs) ht hv hd (k p e R s m args below meth c A n0 ad0 Q hC hA hE ad H locs cells slots lr (z.sk (mm_c1 (mm_vi _ _) (mm_t1 z.vs))))
  | 1, hs, ht => exact va_alen hC.1 hC.2.1 hC.2.2.2.2.2.2.2.2.2.1 z.1 a 1 (mm_ws_get (h := (sh, I, J, F, V)) hs) ht hv hd (k p e R s m args below meth c A n0 ad0 Q hC hA hE ad H locs cells slots lr (z.sk (mm_c1 (mm_vi _ _) (mm_t1 z.vs))))
  | 2, hs, ht => exact va_alen hC.1 hC.2.1 hC.2.2.2.2.2.2.2.2.2.1 z.1 a 2 (mm_ws_get (h := (sh, I, J, F, V)) hs) ht hv hd (k p e R s m args below meth c A n0 ad0 Q hC hA hE ad H locs cells slots lr (z.sk (mm_c1 (mm_vi _ _) (mm_t1 z.vs))))
  | t + 3, hs, ht => exact va_alen hC.1 hC.2.1 hC.2.2.2.2.2.2.2.2.2.1 z.1 a (t + 3) (mm_ws_get (h := (sh, I, J, F, V)) hs) ht hv hd (k p e R s m args below meth c A n0 ad0 Q hC hA hE ad H locs cells slots lr (z.sk (mm_c1 (mm_vi _ _) (mm_t1 z.vs))))
theorem mm_fs_get {ad : Nat → Nat} {ci N a k : Nat} (hN : mm_nf ci = N) (hk : k < N) : ((List.range (mm_nf ci)).map (fun j => mm_rv ad (V a j)))[k]? = some (mm_rv ad (V a k)) := by
  rw [List.getElem?_map, List.getElem?_range (by rw [hN]; exact hk)]
  rfl
theorem mm_fs_set {ad : Nat → Nat} {g : Nat → Value} {n k : Nat} {v : Value} : ((List.range n).map (fun j => mm_rv ad (g j))).set k (mm_rv ad v) = (List.range n).map (fun j => mm_rv ad (va_up g k v j)) := by
  apply List.ext_getElem?
  intro j
  by_cases hj : j = k
  · subst hj
    by_cases hl : j < n
    · rw [List.getElem?_set_self (by simpa using hl), List.getElem?_map, List.getElem?_range hl, Option.map_some, va_up_self]
    · rw [List.getElem?_eq_none (by simpa using hl), List.getElem?_eq_none (by simpa using hl)]
  · rw [List.getElem?_set_ne (fun e => hj e.symm), List.getElem?_map, List.getElem?_map]
    cases hr : (List.range n)[j]? with
    | none => rfl
    | some y =>
      have hy : y = j := by
        have hlt := (List.getElem?_eq_some_iff.mp hr).1
        rw [List.getElem?_range (by simpa using hlt)] at hr
        exact (Option.some.inj hr).symm
      subst hy
      rw [Option.map_some, Option.map_some, va_up_ne _ _ hj]
theorem mw_get {a idx ci N k : Nat} {C : String} {T : u_T} (hd : decode M.2.1 pc = .ok (.getfield idx, 3)) (hs : sh[a]? = some (.inr ci)) (hin : ∀ w ∈ u_ws C T N, w ∈ mm_aw) (hc : mm_cl[ci]? = some (C, T, N)) (hN : mm_nf ci = N) (hk : k < N) (hlink : Cond.fieldLink M.1.cls idx (T k).1 (T k).2.1 (T k).2.2.1 ∈ mm_aw) (kk : mW G M d bc bs (pc + 3) ls (V a k :: st) (sh, I, J, F, V) X) : mW G M d bc bs pc ls (.ref a :: st) (sh, I, J, F, V) X := by
  intro p e R s m args below meth c A n0 ad0 Q hC hA hE ad H locs cells slots lr z
  exact va_get hC.1 hC.2.1 hC.2.2.2.2.1 hin hC.2.2.2.1 hC.2.2.2.2.2.2.2.2.2.1 z.1 a (mm_ws_get (h := (sh, I, J, F, V)) hs) hc k hk (hC.2.2.2.2.1 _ hlink) (fun _ q => q) (mm_fs_get (V := V) (ad := ad) (a := a) hN hk) hd (kk p e R s m args below meth c A n0 ad0 Q hC hA hE ad H locs cells slots lr (z.sk (mm_c1 (fun r hr => z.2.2.2.2.1.2 _ _ _ hr) (mm_t1 z.vs))))
theorem mw_getN {a idx ci N k : Nat} {C host : String} {T : u_T} (hd : decode M.2.1 pc = .ok (.getfield idx, 3)) (hs : sh[a]? = some (.inr ci)) (hin : ∀ w ∈ u_ws C T N, w ∈ mm_aw) (hc : mm_cl[ci]? = some (C, T, N)) (hN : mm_nf ci = N) (hk : k < N) (hlink : Cond.fieldLinkNest M.1.cls idx (T k).1 (T k).2.1 (T k).2.2.1 host ∈ mm_nw) (kk : mW G M d bc bs (pc + 3) ls (V a k :: st) (sh, I, J, F, V) X) : mW G M d bc bs pc ls (.ref a :: st) (sh, I, J, F, V) X := by
  intro p e R s m args below meth c A n0 ad0 Q hC hA hE ad H locs cells slots lr z
  exact va_getN hC.1 hC.2.1 hC.2.2.2.2.1 hin hC.2.2.2.1 hC.2.2.2.2.2.2.2.2.2.1 z.1 a (mm_ws_get (h := (sh, I, J, F, V)) hs) hc k hk (va_Nw.use rfl (hC.2.2.2.2.2.1 _ hlink)) (fun _ q => q) (mm_fs_get (V := V) (ad := ad) (a := a) hN hk) hd (kk p e R s m args below meth c A n0 ad0 Q hC hA hE ad H locs cells slots lr (z.sk (mm_c1 (fun r hr => z.2.2.2.2.1.2 _ _ _ hr) (mm_t1 z.vs))))
theorem mm_ok_V {n a k : Nat} {v : Value} (ho : mm_ok n (sh, I, J, F, V)) (hv : mm_vo n v) : mm_ok n (sh, I, J, F, va_up V a (va_up (V a) k v)) := by
  refine ⟨ho.1, fun a2 k2 r hr => ?_⟩
  have hr : va_up V a (va_up (V a) k v) a2 k2 = .ref r := hr
  by_cases e1 : a2 = a
  · subst e1
    rw [va_up_self] at hr
    by_cases e2 : k2 = k
    · subst e2
      rw [va_up_self] at hr
      exact hv r hr
    · rw [va_up_ne _ _ e2] at hr
      exact ho.2 _ _ _ hr
  · rw [va_up_ne _ _ e1] at hr
    exact ho.2 _ _ _ hr
theorem mw_put {a idx ci N k : Nat} {C : String} {T : u_T} {v : Value} {ty : FieldType} {ty0 : Nat → FieldType} (hd : decode M.2.1 pc = .ok (.putfield idx, 3)) (hs : sh[a]? = some (.inr ci)) (hin : ∀ w ∈ u_ws C T N, w ∈ mm_aw) (hty : ∀ k, k < N → parseFieldDescriptor (T k).2.2.1 = some (ty0 k)) (hnm : ∀ a, a < N → ∀ b, b < N → a ≠ b → (T a).2.1 ≠ (T b).2.1) (hc : mm_cl[ci]? = some (C, T, N)) (hN : mm_nf ci = N) (hk : k < N) (hlink : Cond.fieldLink M.1.cls idx (T k).1 (T k).2.1 (T k).2.2.1 ∈ mm_aw) (hfin : (T k).2.2.2 = false) (hd2 : parseFieldDescriptor (T k).2.2.1 = some ty) (hn : ∀ ad, narrow ty (mm_rv ad v) = mm_rv ad v) (hf : ∀ ad, fits ty (mm_rv ad v) = true) (kk : mW G M d bc bs (pc + 3) ls st (sh, I, J, F, va_up V a (va_up (V a) k v)) X) : mW G M d bc bs pc ls (v :: .ref a :: st) (sh, I, J, F, V) X := by
  intro p e R s m args below meth c A n0 ad0 Q hC hA hE ad H locs cells slots lr z
  refine va_put hC.1 hC.2.1 hC.2.2.2.2.1 hin ty0 hty hnm hC.2.2.2.1 hC.2.2.2.2.2.2.2.2.2.1 z.1 z.2.1 z.2.2.1 a (mm_ws_get (h := (sh, I, J, F, V)) hs) hc k hk (hC.2.2.2.2.1 _ hlink) (fun _ q => q) hfin hd2 (hn ad) (hf ad) (by rw [List.length_map, List.length_range, hN]; exact hk) hd (fun H1 locs1 hP hD hS => ?_)
  have e1 := mm_ws_set (tc := G.2.2.1) (ad := ad) (h := (sh, I, J, F, V)) (h' := (sh, I, J, F, va_up V a (va_up (V a) k v))) rfl hs (fun j hj y => mm_ce_eq (h := (sh, I, J, F, V)) (h' := (sh, I, J, F, va_up V a (va_up (V a) k v))) rfl rfl rfl (va_up_ne _ _ hj) y)
  have e2 : mm_ce G.2.2.1 ad (sh, I, J, F, va_up V a (va_up (V a) k v)) a (.inr ci) = .inr (ci, ((List.range (mm_nf ci)).map (fun j => mm_rv ad (V a j))).set k (mm_rv ad v)) := by
    rw [mm_fs_set]
    simp only [mm_ce, va_up_self]
  rw [e2] at e1
  rw [e1] at hP hD
  exact kk p e R s m args below meth c A n0 ad0 Q hC hA hE ad H1 locs1 cells slots lr (z.wr rfl (mm_ok_V z.2.2.2.2.1 (mm_h1 z.vs)) (mm_t1 (mm_t1 z.vs)) hP hD hS)
theorem mw_putF {a idx ci N k : Nat} {C : String} {T : u_T} {v : Value} {ty : FieldType} {ty0 : Nat → FieldType} (hd : decode M.2.1 pc = .ok (.putfield idx, 3)) (hs : sh[a]? = some (.inr ci)) (hin : ∀ w ∈ u_ws C T N, w ∈ mm_aw) (hty : ∀ k, k < N → parseFieldDescriptor (T k).2.2.1 = some (ty0 k)) (hnm : ∀ a, a < N → ∀ b, b < N → a ≠ b → (T a).2.1 ≠ (T b).2.1) (hc : mm_cl[ci]? = some (C, T, N)) (hN : mm_nf ci = N) (hk : k < N) (hlink : Cond.fieldLink M.1.cls idx (T k).1 (T k).2.1 (T k).2.2.1 ∈ mm_aw) (hfin : (T k).2.2.2 = true) (hi : M.1.name = "<init>") (hdecl : (T k).1 = M.1.cls) (hd2 : parseFieldDescriptor (T k).2.2.1 = some ty) (hn : ∀ ad, narrow ty (mm_rv ad v) = mm_rv ad v) (hf : ∀ ad, fits ty (mm_rv ad v) = true) (kk : mW G M d bc bs (pc + 3) ls st (sh, I, J, F, va_up V a (va_up (V a) k v)) X) : mW G M d bc bs pc ls (v :: .ref a :: st) (sh, I, J, F, V) X := by
  intro p e R s m args below meth c A n0 ad0 Q hC hA hE ad H locs cells slots lr z
  refine va_putF hC.1 hC.2.1 hC.2.2.2.2.1 hin ty0 hty hnm hC.2.2.2.1 hC.2.2.2.2.2.2.2.2.2.1 z.1 z.2.1 z.2.2.1 a (mm_ws_get (h := (sh, I, J, F, V)) hs) hc k hk (hC.2.2.2.2.1 _ hlink) (fun _ q => q) hfin (hC.2.2.2.2.2.2.2.2.1.trans hi) hdecl hd2 (hn ad) (hf ad) (by rw [List.length_map, List.length_range, hN]; exact hk) hd (fun H1 locs1 hP hD hS => ?_)
  have e1 := mm_ws_set (tc := G.2.2.1) (ad := ad) (h := (sh, I, J, F, V)) (h' := (sh, I, J, F, va_up V a (va_up (V a) k v))) rfl hs (fun j hj y => mm_ce_eq (h := (sh, I, J, F, V)) (h' := (sh, I, J, F, va_up V a (va_up (V a) k v))) rfl rfl rfl (va_up_ne _ _ hj) y)
  have e2 : mm_ce G.2.2.1 ad (sh, I, J, F, va_up V a (va_up (V a) k v)) a (.inr ci) = .inr (ci, ((List.range (mm_nf ci)).map (fun j => mm_rv ad (V a j))).set k (mm_rv ad v)) := by
    rw [mm_fs_set]
    simp only [mm_ce, va_up_self]
  rw [e2] at e1
  rw [e1] at hP hD
  exact kk p e R s m args below meth c A n0 ad0 Q hC hA hE ad H1 locs1 cells slots lr (z.wr rfl (mm_ok_V z.2.2.2.2.1 (mm_h1 z.vs)) (mm_t1 (mm_t1 z.vs)) hP hD hS)
theorem mm_S.mk {h h' : mm_H} {R : Room} {s : State} {A : Nat → Prop} {n0 q dc ds : Nat} {ad0 ad : Nat → Nat} {H H1 : Heap} {locs : List Loc} {cells slots : Nat} {lr : Array Slot} {st' : List Value} {x : (Nat × Nat) ⊕ Nat} (z : mm_S G M (bc + dc) (bs + ds) R s A ls st h n0 ad0 ad H locs cells slots lr)
    (hs : h'.1 = h.1 ++ [x]) (ho : mm_ok h'.1.length h') (hv : ∀ v ∈ st', mm_vo h.1.length v) (hP : va_P G.2.1 mm_cl (mm_ws G.2.2.1 (va_up ad h.1.length q) h') H1) (hD : va_D A (mm_ws G.2.2.1 (va_up ad h.1.length q) h')) (hS : va_S A s.heap H1 locs) :
    mm_S G M bc bs R s A ls (.ref h.1.length :: st') h' n0 ad0 (va_up ad h.1.length q) H1 locs (cells + dc) (slots + ds) lr := by
  have hl : h'.1.length = h.1.length + 1 := by rw [hs, List.length_append]; rfl
  have hle : h.1.length ≤ h'.1.length := by omega
  refine ⟨hP, hD, hS, by rw [mm_lm_up z.vl]; exact z.2.2.2.1, ho, fun y hy => mm_vs hle (z.vl y hy), mm_c1 (fun r hr => by rw [hl, ← Value.ref.inj hr]; exact Nat.lt_succ_self _) (fun y hy => mm_vs hle (hv y hy)), ?_, ?_, ?_, fun k hk => ?_⟩
  · have := z.2.2.2.2.2.2.2.1; omega
  · have := z.2.2.2.2.2.2.2.2.1; omega
  · have := z.2.2.2.2.2.2.2.2.2.1; omega
  · have h1 := z.2.2.2.2.2.2.2.2.2.1
    rw [va_up_ne _ _ (by omega)]
    exact z.2.2.2.2.2.2.2.2.2.2 k hk
theorem mm_K1 {G : mm_G} {s : State} {cA : ClassId} {ty : FieldType} {t : Nat} (hK : va_K G.2.1 mm_cl (mm_tys G.2.2.1) s) (ht : (mm_tys G.2.2.1)[t]? = some (G.2.2.1 t, ty)) (h2 : va_K G.2.1 mm_cl (mm_tys G.2.2.1 ++ [(cA, ty)]) s) : cA = G.2.2.1 t := by
  have h1 := (hK.2 t _ ht).2
  have h3 := (h2.2 (mm_tys G.2.2.1).length (cA, ty) (by rw [List.getElem?_append_right (Nat.le_refl _), Nat.sub_self]; rfl)).2
  cases ty with
  | object C =>
    obtain ⟨_, _, _, _, _, h4⟩ := h1
    obtain ⟨_, _, _, _, _, h5⟩ := h3
    exact Option.some.inj (h5.symm.trans h4)
  | _ => exact Option.some.inj (Eq.trans (Eq.symm h3) h1)
theorem mw_newi {n : Int32} {N : Nat} (hd : decode M.2.1 pc = .ok (.newarray .int, 2)) (hw : Cond.arrayClass .int ∈ mm_aw) (hn : ¬ n < 0) (hN : n.toNatClampNeg = N) (hb : N * 8 ≤ 536870912) (k : mW G M d bc bs (pc + 2) ls (.ref sh.length :: st) (sh ++ [.inl (0, N)], va_up I sh.length (fun _ => 0), J, F, V) X) : mW G M d (bc + 1) (bs + N) pc ls (.int n :: st) (sh, I, J, F, V) X := by
  intro p e R s m args below meth c A n0 ad0 Q hC hA hE ad H locs cells slots lr z
  refine va_newa (atype := .int) (a0 := (N, .inl (fun _ => 0))) (ty := .int) hC.1 hC.2.1 (hC.2.2.2.2.1 _ hw) rfl hC.2.2.2.2.2.2.2.2.2.1 z.1 z.2.1 z.2.2.1 hA (fun cA => rfl) hn hN (Nat.le_trans (Nat.mul_le_mul_left N (by decide)) hb) (by have := z.2.2.2.2.2.2.2.1; omega) (by have := z.2.2.2.2.2.2.2.2.1; omega) hd (fun q cA H1 hK2 hP hD hS => ?_)
  cases mm_K1 (t := 0) hC.2.2.2.2.2.2.2.2.2.1 rfl hK2
  have e1 := mm_ws_push (tc := G.2.2.1) (ad := ad) (q := q) (h := (sh, I, J, F, V)) (h' := (sh ++ [.inl (0, N)], va_up I sh.length (fun _ => 0), J, F, V)) (x := .inl (0, N)) z.2.2.2.2.1 rfl (fun k hk => ⟨va_up_ne _ _ (Nat.ne_of_lt hk), rfl, rfl, rfl⟩)
  have e2 : mm_ce G.2.2.1 (va_up ad sh.length q) (sh ++ [.inl (0, N)], va_up I sh.length (fun _ => 0), J, F, V) sh.length (.inl (0, N)) = .inl (G.2.2.1 0, N, .inl (fun _ => 0)) := by simp only [mm_ce, va_up_self]
  rw [e2] at e1
  rw [← e1] at hP hD
  have ho : mm_ok (sh ++ [Sum.inl (0, N)]).length (sh ++ [.inl (0, N)], va_up I sh.length (fun _ => 0), J, F, V) := by
    have hl : (sh ++ [Sum.inl (0, N)]).length = sh.length + 1 := by rw [List.length_append]; rfl
    rw [hl]
    exact ⟨fun a b r hr => Nat.lt_succ_of_lt (z.2.2.2.2.1.1 a b r hr), fun a b r hr => Nat.lt_succ_of_lt (z.2.2.2.2.1.2 a b r hr)⟩
  have z2 := mm_S.mk (dc := 1) (ds := N) (h := (sh, I, J, F, V)) (h' := (sh ++ [.inl (0, N)], va_up I sh.length (fun _ => 0), J, F, V)) z rfl ho (mm_t1 z.vs) hP hD hS
  have := k p e R s m args below meth c A n0 ad0 Q hC hA hE _ H1 locs (cells + 1) (slots + N) lr z2
  rw [List.map_cons, mm_st_up (mm_t1 z.vs)] at this
  rw [show mm_rv (va_up ad sh.length q) (.ref sh.length) = .ref q from by show Value.ref (va_up ad sh.length q sh.length) = _; rw [va_up_self]] at this
  exact this
theorem mw_newz {n : Int32} {N : Nat} (hd : decode M.2.1 pc = .ok (.newarray .boolean, 2)) (hw : Cond.arrayClass .boolean ∈ mm_aw) (hn : ¬ n < 0) (hN : n.toNatClampNeg = N) (hb : N * 8 ≤ 536870912) (k : mW G M d bc bs (pc + 2) ls (.ref sh.length :: st) (sh ++ [.inl (1, N)], va_up I sh.length (fun _ => 0), J, F, V) X) : mW G M d (bc + 1) (bs + N) pc ls (.int n :: st) (sh, I, J, F, V) X := by
  intro p e R s m args below meth c A n0 ad0 Q hC hA hE ad H locs cells slots lr z
  refine va_newa (atype := .boolean) (a0 := (N, .inl (fun _ => 0))) (ty := .boolean) hC.1 hC.2.1 (hC.2.2.2.2.1 _ hw) rfl hC.2.2.2.2.2.2.2.2.2.1 z.1 z.2.1 z.2.2.1 hA (fun cA => rfl) hn hN (Nat.le_trans (Nat.mul_le_mul_left N (by decide)) hb) (by have := z.2.2.2.2.2.2.2.1; omega) (by have := z.2.2.2.2.2.2.2.2.1; omega) hd (fun q cA H1 hK2 hP hD hS => ?_)
  cases mm_K1 (t := 1) hC.2.2.2.2.2.2.2.2.2.1 rfl hK2
  have e1 := mm_ws_push (tc := G.2.2.1) (ad := ad) (q := q) (h := (sh, I, J, F, V)) (h' := (sh ++ [.inl (1, N)], va_up I sh.length (fun _ => 0), J, F, V)) (x := .inl (1, N)) z.2.2.2.2.1 rfl (fun k hk => ⟨va_up_ne _ _ (Nat.ne_of_lt hk), rfl, rfl, rfl⟩)
  have e2 : mm_ce G.2.2.1 (va_up ad sh.length q) (sh ++ [.inl (1, N)], va_up I sh.length (fun _ => 0), J, F, V) sh.length (.inl (1, N)) = .inl (G.2.2.1 1, N, .inl (fun _ => 0)) := by simp only [mm_ce, va_up_self]
  rw [e2] at e1
  rw [← e1] at hP hD
  have ho : mm_ok (sh ++ [Sum.inl (1, N)]).length (sh ++ [.inl (1, N)], va_up I sh.length (fun _ => 0), J, F, V) := by
    have hl : (sh ++ [Sum.inl (1, N)]).length = sh.length + 1 := by rw [List.length_append]; rfl
    rw [hl]
    exact ⟨fun a b r hr => Nat.lt_succ_of_lt (z.2.2.2.2.1.1 a b r hr), fun a b r hr => Nat.lt_succ_of_lt (z.2.2.2.2.1.2 a b r hr)⟩
  have z2 := mm_S.mk (dc := 1) (ds := N) (h := (sh, I, J, F, V)) (h' := (sh ++ [.inl (1, N)], va_up I sh.length (fun _ => 0), J, F, V)) z rfl ho (mm_t1 z.vs) hP hD hS
  have := k p e R s m args below meth c A n0 ad0 Q hC hA hE _ H1 locs (cells + 1) (slots + N) lr z2
  rw [List.map_cons, mm_st_up (mm_t1 z.vs)] at this
  rw [show mm_rv (va_up ad sh.length q) (.ref sh.length) = .ref q from by show Value.ref (va_up ad sh.length q sh.length) = _; rw [va_up_self]] at this
  exact this
theorem mw_newl {n : Int32} {N : Nat} (hd : decode M.2.1 pc = .ok (.newarray .long, 2)) (hw : Cond.arrayClass .long ∈ mm_aw) (hn : ¬ n < 0) (hN : n.toNatClampNeg = N) (hb : N * 8 ≤ 536870912) (k : mW G M d bc bs (pc + 2) ls (.ref sh.length :: st) (sh ++ [.inl (2, N)], I, va_up J sh.length (fun _ => 0), F, V) X) : mW G M d (bc + 1) (bs + N) pc ls (.int n :: st) (sh, I, J, F, V) X := by
  intro p e R s m args below meth c A n0 ad0 Q hC hA hE ad H locs cells slots lr z
  refine va_newa (atype := .long) (a0 := (N, .inr (.inl (fun _ => 0)))) (ty := .long) hC.1 hC.2.1 (hC.2.2.2.2.1 _ hw) rfl hC.2.2.2.2.2.2.2.2.2.1 z.1 z.2.1 z.2.2.1 hA (fun cA => rfl) hn hN (Nat.le_trans (Nat.mul_le_mul_left N (by decide)) hb) (by have := z.2.2.2.2.2.2.2.1; omega) (by have := z.2.2.2.2.2.2.2.2.1; omega) hd (fun q cA H1 hK2 hP hD hS => ?_)
  cases mm_K1 (t := 2) hC.2.2.2.2.2.2.2.2.2.1 rfl hK2
  have e1 := mm_ws_push (tc := G.2.2.1) (ad := ad) (q := q) (h := (sh, I, J, F, V)) (h' := (sh ++ [.inl (2, N)], I, va_up J sh.length (fun _ => 0), F, V)) (x := .inl (2, N)) z.2.2.2.2.1 rfl (fun k hk => ⟨rfl, va_up_ne _ _ (Nat.ne_of_lt hk), rfl, rfl⟩)
  have e2 : mm_ce G.2.2.1 (va_up ad sh.length q) (sh ++ [.inl (2, N)], I, va_up J sh.length (fun _ => 0), F, V) sh.length (.inl (2, N)) = .inl (G.2.2.1 2, N, .inr (.inl (fun _ => 0))) := by simp only [mm_ce, va_up_self]
  rw [e2] at e1
  rw [← e1] at hP hD
  have ho : mm_ok (sh ++ [Sum.inl (2, N)]).length (sh ++ [.inl (2, N)], I, va_up J sh.length (fun _ => 0), F, V) := by
    have hl : (sh ++ [Sum.inl (2, N)]).length = sh.length + 1 := by rw [List.length_append]; rfl
    rw [hl]
    exact ⟨fun a b r hr => Nat.lt_succ_of_lt (z.2.2.2.2.1.1 a b r hr), fun a b r hr => Nat.lt_succ_of_lt (z.2.2.2.2.1.2 a b r hr)⟩
  have z2 := mm_S.mk (dc := 1) (ds := N) (h := (sh, I, J, F, V)) (h' := (sh ++ [.inl (2, N)], I, va_up J sh.length (fun _ => 0), F, V)) z rfl ho (mm_t1 z.vs) hP hD hS
  have := k p e R s m args below meth c A n0 ad0 Q hC hA hE _ H1 locs (cells + 1) (slots + N) lr z2
  rw [List.map_cons, mm_st_up (mm_t1 z.vs)] at this
  rw [show mm_rv (va_up ad sh.length q) (.ref sh.length) = .ref q from by show Value.ref (va_up ad sh.length q sh.length) = _; rw [va_up_self]] at this
  exact this
end MMH
end
section
/-! CONTRACTS AND CALLS over the small machine -/
def mm_rm (d bc bs : Nat) : Room := { frames := d + 9, cells := bc, slots := bs, locals := 40 * d + 300 }
theorem mm_rml (d bc bs : Nat) : (mm_rm d bc bs).locals = 40 * d + 300 := rfl
theorem mm_rmf (d bc bs : Nat) : (mm_rm d bc bs).frames = d + 9 := rfl
theorem mm_r2 {d mc ms L x : Nat} (hL : L ≤ 21) (h : 40 * (d + 1) + 300 ≤ x) : 8 + (L + 11) + (mm_rm d mc ms).locals ≤ x := by
  rw [mm_rml, Nat.mul_succ] at *
  refine Nat.le_trans ?_ h
  rw [Nat.add_right_comm _ 40, Nat.add_comm]
  exact Nat.add_le_add_left (Nat.le_trans (Nat.add_le_add_left (Nat.add_le_add_right hL 11) 8) (by decide)) _
def mm_wm (M : mm_M) : List Cond := .code M.1 M.2.1 M.2.2.1 M.2.2.2 :: mm_aw
def mm_Pr (G : mm_G) (ad : Nat → Nat) (as : List Value) (h : mm_H) (sz : Nat) : Array Value → State → Prop :=
  va_Pc (as.map (mm_rv ad)) (fun U => U.heap.size = sz ∧ va_P G.2.1 mm_cl (mm_ws G.2.2.1 ad h) U.heap ∧ va_K G.2.1 mm_cl (mm_tys G.2.2.1) U ∧ va_D (fun _ => True) (mm_ws G.2.2.1 ad h) ∧ ∀ w ∈ mm_nw, va_Nw w U)
def mm_Po (G : mm_G) (ad : Nat → Nat) (h : mm_H) (sz : Nat) (X : mm_X) : Array Value → State → Outcome → State → Prop := fun _ st oc t =>
  (∃ (v : Option Value) (h' : mm_H) (ad' : Nat → Nat), oc = .returned (v.map (mm_rv ad')) ∧ X (.inl v) h' ∧ h.1.length ≤ h'.1.length ∧ (∀ k, k < h.1.length → ad' k = ad k) ∧ mm_ok h'.1.length h' ∧ (∀ x ∈ v.toList, mm_vo h'.1.length x) ∧
    va_P G.2.1 mm_cl (mm_ws G.2.2.1 ad' h') t.heap ∧ va_D (va_A (mm_ws G.2.2.1 ad h) sz) (mm_ws G.2.2.1 ad' h')) ∧ va_F (va_A (mm_ws G.2.2.1 ad h) sz) st t
/-- the method M, from the arguments as and the heap h, with d frames below it and so much room: it returns, and X -/
def mE (G : mm_G) (M : mm_M) (d bc bs : Nat) (as : List Value) (h : mm_H) (X : mm_X) : Prop :=
  mm_ok h.1.length h → (∀ v ∈ as, mm_vo h.1.length v) → ∀ (ad : Nat → Nat) (sz : Nat), Met G.1 M.1 (mm_wm M) (mm_rm d bc bs) (mm_Pr G ad as h sz) (mm_Po G ad h sz X) bc bs (va_A (mm_ws G.2.2.1 ad h) sz)
theorem mm_sl_len (ad : Nat → Nat) (as : List Value) : (lg_sl (as.map (mm_rv ad))).length = (lg_sl as).length := by
  induction as with
  | nil => rfl
  | cons v as ih =>
    simp only [lg_sl, List.map_cons, List.flatMap_cons, List.length_append, mm_cat] at ih ⊢
    rw [ih]
    split <;> rfl
theorem mm_args (ad : Nat → Nat) (as : List Value) (i : Nat) : lv_args i (as.map (mm_rv ad)) = mm_lm ad (lv_args i as) := by
  induction as generalizing i with
  | nil => rfl
  | cons v as ih =>
    simp only [List.map_cons, lv_args, mm_cat, ih]
theorem mm_args_vo {n : Nat} {as : List Value} (h : ∀ v ∈ as, mm_vo n v) (i : Nat) : ∀ q ∈ lv_args i as, mm_vo n q.2 := by
  induction as generalizing i with
  | nil => intro q hq; cases hq
  | cons v as ih =>
    intro q hq
    rcases List.mem_cons.mp hq with rfl | hq
    · exact h v List.mem_cons_self
    · exact ih (fun x hx => h x (List.mem_cons_of_mem _ hx)) _ q hq
set_option maxHeartbeats 1000000 in
theorem mE_intro {G : mm_G} {M : mm_M} {d bc bs : Nat} {as : List Value} {h : mm_H} {X : mm_X} (hy : plainName M.1.cls = true) (hl : (lg_sl as).length ≤ M.2.2.1) (k : mW G M d bc bs 0 (lv_args 0 as) [] h X) : mE G M d bc bs as h X := by
  intro ho hv ad sz
  refine Met.ofW (cc := M.2.1) (maxL := M.2.2.1) (ret := M.2.2.2) hy rfl ?_
  intro p e s m args below meth c s₁ B hml hp
  obtain ⟨rfl, hsz, hP, hK, hD0, hN⟩ := hp
  subst hsz
  have hts := atoms_spec (ws := mm_wm M) B.pre
  have hC : mm_C G M d p (mm_rm d bc bs) s m (as.map (mm_rv ad)).toArray meth c :=
    ⟨B.exec, B.bytes, hml, findClass_of_methodNamed B.named, fun w hw => hts w (List.mem_cons_of_mem _ hw), hN, B.returns, B.notSynchronized, (name_of_methodNamed B.named B.method).1, hK, Nat.le_refl _, Nat.le_refl _⟩
  have hD := hD0.self (sz := s.heap.size)
  have hl0 := lv_entry (as.map (mm_rv ad)) (n := M.2.2.1) (by rw [mm_sl_len]; exact hl)
  rw [lg_entry_eq]
  rw [mm_args] at hl0
  have hE : mm_E G M p e (mm_rm d bc bs) s m (as.map (mm_rv ad)).toArray below meth c (va_A (mm_ws G.2.2.1 ad h) s.heap.size) h.1.length ad (MQ below (mm_Po G ad h s.heap.size X) (as.map (mm_rv ad)).toArray s bc bs (va_A (mm_ws G.2.2.1 ad h) s.heap.size)) X := by
    intro h' ad' H' locs' cells' slots' lr' v hX hvo z
    have hc : cells' ≤ bc := z.2.2.2.2.2.2.2.1
    have hs : slots' ≤ bs := z.2.2.2.2.2.2.2.2.1
    have post : ∀ t : State, t.heap = H' → mm_Po G ad h s.heap.size X (as.map (mm_rv ad)).toArray s (.returned (v.map (mm_rv ad'))) t := fun t ht =>
      ⟨⟨v, h', ad', rfl, hX, z.2.2.2.2.2.2.2.2.2.1, z.2.2.2.2.2.2.2.2.2.2, z.2.2.2.2.1, hvo, by rw [ht]; exact z.1, z.2.1⟩, z.2.2.1.F ht⟩
    refine ⟨?_, ?_, ?_, ?_⟩
    · intro hv2 hr pc hd
      subst hv2
      refine W.widen hc hs ?_
      exact W.vret B.exec B.bytes (B.returns.trans hr) (fun t ht _ => post t ht) z.2.2.1.2.2 hd B.notSynchronized
    · intro x ty hv2 hr hn pc hd
      subst hv2
      refine W.widen hc hs ?_
      exact W.zret B.exec B.bytes (B.returns.trans hr) hn (fun t ht _ => post t ht) z.2.2.1.2.2 hd B.notSynchronized
    · intro x hv2 hr pc hd
      subst hv2
      refine W.widen hc hs ?_
      exact W.lret B.exec B.bytes (B.returns.trans hr) (fun t ht _ => post t ht) z.2.2.1.2.2 hd B.notSynchronized
    · intro x n hv2 hr pc hd
      subst hv2
      refine W.widen hc hs ?_
      exact W.aret B.exec B.bytes (B.returns.trans hr) (Or.inl ⟨n, rfl⟩) (Or.inr ⟨_, rfl⟩) (fun t ht _ => post t ht) z.2.2.1.2.2 hd B.notSynchronized
  exact k p e (mm_rm d bc bs) s m _ below meth c _ _ ad _ hC (fun q hq => Or.inr hq) hE ad s.heap [] 0 0 _
    ⟨hP, hD, va_S.rf, hl0, ho, mm_args_vo hv 0, (fun _ hq => absurd hq List.not_mem_nil), by show 0 + bc ≤ bc; omega, by show 0 + bs ≤ bs; omega, Nat.le_refl _, fun _ _ => rfl⟩
section MMC
variable {G : mm_G} {M M2 : mm_M} {d bc bs mc ms pc : Nat} {ls : List (Nat × Value)} {st : List Value} {h : mm_H} {X Y : mm_X}
theorem mm_agree {ad ad' : Nat → Nat} {n : Nat} (e : ∀ k, k < n → ad' k = ad k) {v : Value} (hv : mm_vo n v) : mm_rv ad' v = mm_rv ad v := by
  cases v with
  | ref r => show Value.ref (ad' r) = .ref (ad r); rw [e r (hv r rfl)]
  | _ => rfl
theorem mm_blind {ad : Nat → Nat} {as : List Value} {sz : Nat} : FrameBlind (mm_Pr G ad as h sz) := fun a U g mk q =>
  ⟨q.1, q.2.1, q.2.2.1, va_K.moved (u := U) (U := U.calling g mk a) (Vm.Alike.refl U.vm) q.2.2.2.1, q.2.2.2.2.1, fun w hw => mm_nw_same (u := U) (U := U.calling g mk a) w hw rfl (q.2.2.2.2.2 w hw)⟩
theorem mm_pre {ad : Nat → Nat} {as : List Value} {p : Program} {R : Room} {s : State} {m : MethodId} {args : Array Value} {meth : Method} {c : Code} {A : Nat → Prop} {n0 : Nat} {ad0 : Nat → Nat} {H : Heap} {locs : List Loc} {cells slots : Nat} {lr : Array Slot} {st' : List Value}
    (hC : mm_C G M d p R s m args meth c) (z : mm_S G M bc bs R s A ls st' h n0 ad0 ad H locs cells slots lr) : ∀ U : State, U.heap = H → s.WarmedH U.vm → mm_Pr G ad as h H.size (as.map (mm_rv ad)).toArray U := fun U hU hW =>
  ⟨rfl, by rw [hU], by rw [hU]; exact z.1, va_K.moved hW.alike hC.2.2.2.2.2.2.2.2.2.1, z.2.1.weaken (fun _ _ _ _ => trivial), fun w hw => mm_nw_warm w hw hW (hC.2.2.2.2.2.1 w hw)⟩
theorem mm_after {p : Program} {e : Env} {R : Room} {s : State} {m : MethodId} {args : Array Value} {below : List Frame} {meth : Method} {c : Code} {A : Nat → Prop} {n0 : Nat} {ad0 ad : Nat → Nat} {Q : State → Prop} {H : Heap} {locs : List Loc} {cells slots : Nat} {lr : Array Slot} {st' st0 : List Value} {a : Array Value}
    (hC : mm_C G M d p R s m args meth c) (hA : ∀ q, s.heap.size ≤ q → A q) (hE : mm_E G M p e R s m args below meth c A n0 ad0 Q X) (z : mm_S G M (bc + mc) (bs + ms) R s A ls st' h n0 ad0 ad H locs cells slots lr) (hst : ∀ v ∈ st, mm_vo h.1.length v)
    (hr : va_Run p G.1 e R s m args below meth c H locs cells slots mc ms (F0 m pc lr st0) (st.map (mm_rv ad)) (mm_Po G ad h H.size Y a) (va_A (mm_ws G.2.2.1 ad h) H.size))
    (k : ∀ (v : Option Value) (h' : mm_H), Y (.inl v) h' → mW G M d bc bs (pc + 3) ls (v.toList ++ st) h' X) : W p G.1 e R s m args below meth c H locs cells slots Q (F0 m pc lr st0) := by
  have hF : ∀ q, va_A (mm_ws G.2.2.1 ad h) H.size q → A q := fun q hq => by
    rcases hq with ⟨j, x, hj⟩ | hq
    · exact z.2.1.2 j _ hj
    · exact hA q (Nat.le_trans z.2.2.1.1 hq)
  intro T hT S
  obtain ⟨v, st₀, t, T', L, h0, S', hL, e1, e2, ⟨⟨v2, h', ad', hv, hY, hlen, hag, hok, hvo, hP', hD'⟩, hz, hk⟩, go⟩ := hr T hT S
  have hv : v = v2.map (mm_rv ad') := Outcome.returned.inj hv
  subst hv
  rw [h0] at hz hk
  have z2 : mm_S G M bc bs R s A ls (v2.toList ++ st) h' n0 ad0 ad' T'.heap (locs ++ L) (cells + mc) (slots + ms) lr := by
    refine ⟨by rw [e1]; exact hP', hD'.weaken (fun _ q _ hq => hF q.1 hq), ⟨Nat.le_trans z.2.2.1.1 (by rw [e1]; exact hz), fun q h1 h2 => ?_, fun q hq => ?_⟩, ?_, hok, fun q hq => mm_vs hlen (z.vl q hq), fun x hx => ?_, ?_, ?_, Nat.le_trans z.2.2.2.2.2.2.2.2.2.1 hlen, fun j hj => ?_⟩
    · rw [e1, hk q (Nat.lt_of_lt_of_le h1 z.2.2.1.1) (fun hq => h2 (hF q hq))]
      exact z.2.2.1.2.1 q h1 h2
    · rcases List.mem_append.mp hq with hq | hq
      · exact z.2.2.1.2.2 q hq
      · exact hF _ (hL q hq)
    · have : mm_lm ad' ls = mm_lm ad ls := List.map_congr_left (fun q hq => by rw [mm_agree hag (z.vl q hq)])
      rw [this]
      exact z.2.2.2.1
    · rcases List.mem_append.mp hx with hx | hx
      · exact hvo x hx
      · exact mm_vs hlen (hst x hx)
    · have := z.2.2.2.2.2.2.2.1
      omega
    · have := z.2.2.2.2.2.2.2.2.1
      omega
    · rw [hag j (Nat.lt_of_lt_of_le hj z.2.2.2.2.2.2.2.2.2.1)]
      exact z.2.2.2.2.2.2.2.2.2.2 j hj
  have k2 := k v2 h' hY p e R s m args below meth c A n0 ad0 Q hC hA hE ad' T'.heap (locs ++ L) (cells + mc) (slots + ms) lr z2
  have e3 : (v2.toList ++ st).map (mm_rv ad') = (v2.map (mm_rv ad')).toList ++ st.map (mm_rv ad) := by
    rw [List.map_append]
    congr 1
    · cases v2 <;> rfl
    · exact List.map_congr_left (fun x hx => mm_agree hag (hst x hx))
  rw [e3] at k2
  obtain ⟨t2, a1, b1⟩ := k2 T' rfl S'
  exact ⟨t2, go t2 a1, b1⟩
theorem mm_rest (st : List Value) (ad : Nat → Nat) : ((st.map (mm_rv ad)).map fun v => v.category).sum = (st.map fun v => v.category).sum := by
  rw [List.map_map]
  congr 1
  apply List.map_congr_left
  intro v _
  exact mm_cat ad v
theorem mm_good_in {ws : List Cond} (h : ∀ w ∈ ws, w ∈ mm_aw) : GoodIn mm_aw ws := fun w hw => ⟨h w hw, mm_good w (h w hw)⟩
theorem mm_wm_in {M : mm_M} (h : Cond.code M.1 M.2.1 M.2.2.1 M.2.2.2 ∈ mm_aw) : ∀ w ∈ mm_wm M, w ∈ mm_aw := fun w hw => by
  rcases List.mem_cons.mp hw with rfl | hw
  · exact h
  · exact hw
abbrev mm_ny (M : mm_M) (n : Nat) : Prop := M.1.cls ≠ "java/lang/invoke/MethodHandle" ∧ M.1.cls ≠ "java/lang/invoke/VarHandle" ∧ (parseMethodDescriptor M.1.desc).map (fun d => d.parameters.length) = some n
theorem mw_callV {idx n : Nat} {as : List Value} {b : Nat} {ci N : Nat} {T : u_T} (hd : decode M.2.1 pc = .ok (.invokevirtual idx, 3)) (hw : ∀ w ∈ ([.methodLink M.1.cls idx M2.1, .instanceMethod M2.1, .selects M2.1.cls M2.1 M2.1, .initialized M2.1.cls, .code M2.1 M2.2.1 M2.2.2.1 M2.2.2.2] : List Cond), w ∈ mm_aw) (hs : h.1[b]? = some (.inr ci)) (hc : mm_cl[ci]? = some (M2.1.cls, T, N)) (hy : mm_ny M2 n) (hL : M2.2.2.1 ≤ 21) (hn : as.length = n) (hrest : (st.map fun v => v.category).sum ≤ 8) (hm : mE G M2 d mc ms (.ref b :: as) h Y) (k : ∀ (v : Option Value) (h' : mm_H), Y (.inl v) h' → mW G M (d + 1) bc bs (pc + 3) ls (v.toList ++ st) h' X) : mW G M (d + 1) (bc + mc) (bs + ms) pc ls (as.reverse ++ .ref b :: st) h X := by
  intro p e R s m args below meth c A n0 ad0 Q hC hA hE ad H locs cells slots lr z
  have hst : ∀ v ∈ st, mm_vo h.1.length v := fun v hv => z.vs v (List.mem_append_right _ (List.mem_cons_of_mem _ hv))
  have has : ∀ v ∈ (.ref b :: as), mm_vo h.1.length v := fun v hv => by
    rcases List.mem_cons.mp hv with rfl | hv
    · exact z.vs _ (List.mem_append_right _ List.mem_cons_self)
    · exact z.vs _ (List.mem_append_left _ (List.mem_reverse.mpr hv))
  have r1 : (mm_rm d mc ms).frames + 1 ≤ R.frames := by have := hC.2.2.2.2.2.2.2.2.2.2.1; rw [mm_rmf]; omega
  have r2 : 8 + (M2.2.2.1 + 11) + (mm_rm d mc ms).locals ≤ R.locals := mm_r2 hL hC.2.2.2.2.2.2.2.2.2.2.2
  have r3 : cells + mc ≤ R.cells ∧ slots + ms ≤ R.slots := ⟨by have := z.2.2.2.2.2.2.2.1; omega, by have := z.2.2.2.2.2.2.2.2.1; omega⟩
  refine mm_after hC hA hE z hst (va_runV (As := as.map (mm_rv ad)) (b := ad b) (rest := st.map (mm_rv ad)) (n := n) ⟨hC.1, hC.2.1, hC.2.2.1, hC.2.2.2.1, hC.2.2.2.2.1⟩ (hm z.2.2.2.2.1 has ad H.size) ⟨callB_of n hC.2.2.2.2.1 (mm_good_in (mm_wm_in (hw _ (List.mem_cons_of_mem _ (List.mem_cons_of_mem _ (List.mem_cons_of_mem _ (List.mem_cons_of_mem _ (List.mem_cons_self)))))))) rfl rfl rfl (hC.2.2.2.2.1 _ (hw _ (List.mem_cons_of_mem _ (List.mem_cons_of_mem _ (List.mem_cons_of_mem _ (List.mem_cons_self)))))) (hC.2.2.2.2.1 _ (hw _ (List.mem_cons_self))) hy ⟨r1, r2⟩, (hC.2.2.2.2.1 _ (hw _ (List.mem_cons_of_mem _ (List.mem_cons_self)))), (hC.2.2.2.2.1 _ (hw _ (List.mem_cons_of_mem _ (List.mem_cons_of_mem _ (List.mem_cons_self)))))⟩ ⟨mm_blind, va_recv hC.2.2.2.2.2.2.2.2.2.1 z.1 hc (mm_ws_get hs), mm_pre hC z⟩ rfl (by rw [List.length_map]; exact hn) z.2.2.2.1.1 ?_ (lv_room (by rw [mm_rest]; exact hrest)) hd r3) k
  show (as.reverse ++ .ref b :: st).map (mm_rv ad) = _
  rw [List.map_append, List.map_reverse]
  rfl
theorem mw_callS {idx n : Nat} {as : List Value} (hd : decode M.2.1 pc = .ok (.invokestatic idx, 3)) (hw : ∀ w ∈ ([.methodLink M.1.cls idx M2.1, .static M2.1, .initialized M2.1.cls, .code M2.1 M2.2.1 M2.2.2.1 M2.2.2.2] : List Cond), w ∈ mm_aw) (hcl : M2.1.cls = M.1.cls) (hy : mm_ny M2 n) (hL : M2.2.2.1 ≤ 21) (hn : as.length = n) (hrest : (st.map fun v => v.category).sum ≤ 8) (hm : mE G M2 d mc ms as h Y) (k : ∀ (v : Option Value) (h' : mm_H), Y (.inl v) h' → mW G M (d + 1) bc bs (pc + 3) ls (v.toList ++ st) h' X) : mW G M (d + 1) (bc + mc) (bs + ms) pc ls (as.reverse ++ st) h X := by
  intro p e R s m args below meth c A n0 ad0 Q hC hA hE ad H locs cells slots lr z
  have hst : ∀ v ∈ st, mm_vo h.1.length v := fun v hv => z.vs v (List.mem_append_right _ hv)
  have has : ∀ v ∈ as, mm_vo h.1.length v := fun v hv => z.vs v (List.mem_append_left _ (List.mem_reverse.mpr hv))
  have r1 : (mm_rm d mc ms).frames + 1 ≤ R.frames := by have := hC.2.2.2.2.2.2.2.2.2.2.1; rw [mm_rmf]; omega
  have r2 : 8 + (M2.2.2.1 + 11) + (mm_rm d mc ms).locals ≤ R.locals := mm_r2 hL hC.2.2.2.2.2.2.2.2.2.2.2
  have r3 : cells + mc ≤ R.cells ∧ slots + ms ≤ R.slots := ⟨by have := z.2.2.2.2.2.2.2.1; omega, by have := z.2.2.2.2.2.2.2.2.1; omega⟩
  refine mm_after hC hA hE z hst (va_runS (As := as.map (mm_rv ad)) (rest := st.map (mm_rv ad)) (n := n) ⟨hC.1, hC.2.1, hC.2.2.1, hC.2.2.2.1, hC.2.2.2.2.1⟩ (hm z.2.2.2.2.1 has ad H.size) ⟨callB_of n hC.2.2.2.2.1 (mm_good_in (mm_wm_in (hw _ (List.mem_cons_of_mem _ (List.mem_cons_of_mem _ (List.mem_cons_of_mem _ (List.mem_cons_self))))))) rfl rfl rfl (hC.2.2.2.2.1 _ (hw _ (List.mem_cons_of_mem _ (List.mem_cons_of_mem _ (List.mem_cons_self))))) (hC.2.2.2.2.1 _ (hw _ (List.mem_cons_self))) hy ⟨r1, r2⟩, (hC.2.2.2.2.1 _ (hw _ (List.mem_cons_of_mem _ (List.mem_cons_self))))⟩ ⟨mm_blind, mm_pre hC z⟩ rfl (by rw [List.length_map]; exact hn) z.2.2.2.1.1 ?_ (lv_room (by rw [mm_rest]; exact hrest)) hd r3) k
  show (as.reverse ++ st).map (mm_rv ad) = _
  rw [List.map_append, List.map_reverse]
theorem mw_callI {idx n : Nat} {as : List Value} {b : Nat} (hd : decode M.2.1 pc = .ok (.invokespecial idx, 3)) (hw : ∀ w ∈ ([.methodLink M.1.cls idx M2.1, .instanceMethod M2.1, .initialized M2.1.cls, .code M2.1 M2.2.1 M2.2.2.1 M2.2.2.2] : List Cond), w ∈ mm_aw) (hi : M2.1.name = "<init>") (hret : M2.2.2.2 = none) (hy : mm_ny M2 n) (hL : M2.2.2.1 ≤ 21) (hn : as.length = n) (hrest : (st.map fun v => v.category).sum ≤ 8) (hm : mE G M2 d mc ms (.ref b :: as) h Y) (k : ∀ (v : Option Value) (h' : mm_H), Y (.inl v) h' → mW G M (d + 1) bc bs (pc + 3) ls (v.toList ++ st) h' X) : mW G M (d + 1) (bc + mc) (bs + ms) pc ls (as.reverse ++ .ref b :: st) h X := by
  intro p e R s m args below meth c A n0 ad0 Q hC hA hE ad H locs cells slots lr z
  have hst : ∀ v ∈ st, mm_vo h.1.length v := fun v hv => z.vs v (List.mem_append_right _ (List.mem_cons_of_mem _ hv))
  have has : ∀ v ∈ (.ref b :: as), mm_vo h.1.length v := fun v hv => by
    rcases List.mem_cons.mp hv with rfl | hv
    · exact z.vs _ (List.mem_append_right _ List.mem_cons_self)
    · exact z.vs _ (List.mem_append_left _ (List.mem_reverse.mpr hv))
  have r1 : (mm_rm d mc ms).frames + 1 ≤ R.frames := by have := hC.2.2.2.2.2.2.2.2.2.2.1; rw [mm_rmf]; omega
  have r2 : 8 + (M2.2.2.1 + 11) + (mm_rm d mc ms).locals ≤ R.locals := mm_r2 hL hC.2.2.2.2.2.2.2.2.2.2.2
  have r3 : cells + mc ≤ R.cells ∧ slots + ms ≤ R.slots := ⟨by have := z.2.2.2.2.2.2.2.1; omega, by have := z.2.2.2.2.2.2.2.2.1; omega⟩
  refine mm_after hC hA hE z hst (va_runI (As := as.map (mm_rv ad)) (b := ad b) (rest := st.map (mm_rv ad)) (n := n) ⟨hC.1, hC.2.1, hC.2.2.1, hC.2.2.2.1, hC.2.2.2.2.1⟩ (hm z.2.2.2.2.1 has ad H.size) ⟨(by rw [← hret]; exact callB_of n hC.2.2.2.2.1 (mm_good_in (mm_wm_in (hw _ (List.mem_cons_of_mem _ (List.mem_cons_of_mem _ (List.mem_cons_of_mem _ (List.mem_cons_self))))))) rfl rfl rfl (hC.2.2.2.2.1 _ (hw _ (List.mem_cons_of_mem _ (List.mem_cons_of_mem _ (List.mem_cons_self))))) (hC.2.2.2.2.1 _ (hw _ (List.mem_cons_self))) hy ⟨r1, r2⟩), hi, (hC.2.2.2.2.1 _ (hw _ (List.mem_cons_of_mem _ (List.mem_cons_self))))⟩ ⟨mm_blind, mm_pre hC z⟩ rfl (by rw [List.length_map]; exact hn) z.2.2.2.1.1 ?_ (lv_room (by rw [mm_rest]; exact hrest)) hd r3) k
  show (as.reverse ++ .ref b :: st).map (mm_rv ad) = _
  rw [List.map_append, List.map_reverse]
  rfl
theorem mw_callVN {idx n : Nat} {as : List Value} {b : Nat} {ci N : Nat} {T : u_T} {host : String} (hd : decode M.2.1 pc = .ok (.invokevirtual idx, 3)) (hw : ∀ w ∈ ([.instanceMethod M2.1, .selects M2.1.cls M2.1 M2.1, .initialized M2.1.cls, .code M2.1 M2.2.1 M2.2.2.1 M2.2.2.2] : List Cond), w ∈ mm_aw) (hlk : Cond.methodLinkNest M.1.cls idx M2.1 host ∈ mm_nw) (hs : h.1[b]? = some (.inr ci)) (hc : mm_cl[ci]? = some (M2.1.cls, T, N)) (hy : mm_ny M2 n) (hL : M2.2.2.1 ≤ 21) (hn : as.length = n) (hrest : (st.map fun v => v.category).sum ≤ 8) (hm : mE G M2 d mc ms (.ref b :: as) h Y) (k : ∀ (v : Option Value) (h' : mm_H), Y (.inl v) h' → mW G M (d + 1) bc bs (pc + 3) ls (v.toList ++ st) h' X) : mW G M (d + 1) (bc + mc) (bs + ms) pc ls (as.reverse ++ .ref b :: st) h X := by
  intro p e R s m args below meth c A n0 ad0 Q hC hA hE ad H locs cells slots lr z
  have hst : ∀ v ∈ st, mm_vo h.1.length v := fun v hv => z.vs v (List.mem_append_right _ (List.mem_cons_of_mem _ hv))
  have has : ∀ v ∈ (.ref b :: as), mm_vo h.1.length v := fun v hv => by
    rcases List.mem_cons.mp hv with rfl | hv
    · exact z.vs _ (List.mem_append_right _ List.mem_cons_self)
    · exact z.vs _ (List.mem_append_left _ (List.mem_reverse.mpr hv))
  have r1 : (mm_rm d mc ms).frames + 1 ≤ R.frames := by have := hC.2.2.2.2.2.2.2.2.2.2.1; rw [mm_rmf]; omega
  have r2 : 8 + (M2.2.2.1 + 11) + (mm_rm d mc ms).locals ≤ R.locals := mm_r2 hL hC.2.2.2.2.2.2.2.2.2.2.2
  have r3 : cells + mc ≤ R.cells ∧ slots + ms ≤ R.slots := ⟨by have := z.2.2.2.2.2.2.2.1; omega, by have := z.2.2.2.2.2.2.2.2.1; omega⟩
  refine mm_after hC hA hE z hst (va_runVN (As := as.map (mm_rv ad)) (b := ad b) (rest := st.map (mm_rv ad)) (n := n) ⟨hC.1, hC.2.1, hC.2.2.1, hC.2.2.2.1, hC.2.2.2.2.1⟩ (hm z.2.2.2.2.1 has ad H.size) ⟨va_cnB n hC.2.2.2.2.1 (mm_good_in (mm_wm_in (hw _ (List.mem_cons_of_mem _ (List.mem_cons_of_mem _ (List.mem_cons_of_mem _ (List.mem_cons_self))))))) rfl rfl rfl (hC.2.2.2.2.2.1 _ hlk) (hC.2.2.2.2.1 _ (hw _ (List.mem_cons_of_mem _ (List.mem_cons_of_mem _ (List.mem_cons_self))))) hy ⟨r1, r2⟩, (hC.2.2.2.2.1 _ (hw _ (List.mem_cons_self))), (hC.2.2.2.2.1 _ (hw _ (List.mem_cons_of_mem _ (List.mem_cons_self))))⟩ ⟨mm_blind, va_recv hC.2.2.2.2.2.2.2.2.2.1 z.1 hc (mm_ws_get hs), mm_pre hC z⟩ rfl (by rw [List.length_map]; exact hn) z.2.2.2.1.1 ?_ (lv_room (by rw [mm_rest]; exact hrest)) hd r3) k
  show (as.reverse ++ .ref b :: st).map (mm_rv ad) = _
  rw [List.map_append, List.map_reverse]
  rfl
theorem mw_callSN {idx n : Nat} {as : List Value} {host : String} (hd : decode M.2.1 pc = .ok (.invokestatic idx, 3)) (hw : ∀ w ∈ ([.static M2.1, .initialized M2.1.cls, .code M2.1 M2.2.1 M2.2.2.1 M2.2.2.2] : List Cond), w ∈ mm_aw) (hlk : Cond.methodLinkNest M.1.cls idx M2.1 host ∈ mm_nw) (hy : mm_ny M2 n) (hL : M2.2.2.1 ≤ 21) (hn : as.length = n) (hrest : (st.map fun v => v.category).sum ≤ 8) (hm : mE G M2 d mc ms as h Y) (k : ∀ (v : Option Value) (h' : mm_H), Y (.inl v) h' → mW G M (d + 1) bc bs (pc + 3) ls (v.toList ++ st) h' X) : mW G M (d + 1) (bc + mc) (bs + ms) pc ls (as.reverse ++ st) h X := by
  intro p e R s m args below meth c A n0 ad0 Q hC hA hE ad H locs cells slots lr z
  have hst : ∀ v ∈ st, mm_vo h.1.length v := fun v hv => z.vs v (List.mem_append_right _ hv)
  have has : ∀ v ∈ as, mm_vo h.1.length v := fun v hv => z.vs v (List.mem_append_left _ (List.mem_reverse.mpr hv))
  have r1 : (mm_rm d mc ms).frames + 1 ≤ R.frames := by have := hC.2.2.2.2.2.2.2.2.2.2.1; rw [mm_rmf]; omega
  have r2 : 8 + (M2.2.2.1 + 11) + (mm_rm d mc ms).locals ≤ R.locals := mm_r2 hL hC.2.2.2.2.2.2.2.2.2.2.2
  have r3 : cells + mc ≤ R.cells ∧ slots + ms ≤ R.slots := ⟨by have := z.2.2.2.2.2.2.2.1; omega, by have := z.2.2.2.2.2.2.2.2.1; omega⟩
  refine mm_after hC hA hE z hst (va_runSN (As := as.map (mm_rv ad)) (rest := st.map (mm_rv ad)) (n := n) ⟨hC.1, hC.2.1, hC.2.2.1, hC.2.2.2.1, hC.2.2.2.2.1⟩ (hm z.2.2.2.2.1 has ad H.size) ⟨va_cnB n hC.2.2.2.2.1 (mm_good_in (mm_wm_in (hw _ (List.mem_cons_of_mem _ (List.mem_cons_of_mem _ (List.mem_cons_self)))))) rfl rfl rfl (hC.2.2.2.2.2.1 _ hlk) (hC.2.2.2.2.1 _ (hw _ (List.mem_cons_of_mem _ (List.mem_cons_self)))) hy ⟨r1, r2⟩, (hC.2.2.2.2.1 _ (hw _ (List.mem_cons_self))), trivial⟩ ⟨mm_blind, mm_pre hC z⟩ rfl (by rw [List.length_map]; exact hn) z.2.2.2.1.1 ?_ (lv_room (by rw [mm_rest]; exact hrest)) hd r3) k
  show (as.reverse ++ st).map (mm_rv ad) = _
  rw [List.map_append, List.map_reverse]
theorem mw_callIN {idx n : Nat} {as : List Value} {b : Nat} {host : String} (hd : decode M.2.1 pc = .ok (.invokespecial idx, 3)) (hw : ∀ w ∈ ([.instanceMethod M2.1, .initialized M2.1.cls, .code M2.1 M2.2.1 M2.2.2.1 M2.2.2.2] : List Cond), w ∈ mm_aw) (hlk : Cond.methodLinkNest M.1.cls idx M2.1 host ∈ mm_nw) (hi : M2.1.name = "<init>") (hret : M2.2.2.2 = none) (hy : mm_ny M2 n) (hL : M2.2.2.1 ≤ 21) (hn : as.length = n) (hrest : (st.map fun v => v.category).sum ≤ 8) (hm : mE G M2 d mc ms (.ref b :: as) h Y) (k : ∀ (v : Option Value) (h' : mm_H), Y (.inl v) h' → mW G M (d + 1) bc bs (pc + 3) ls (v.toList ++ st) h' X) : mW G M (d + 1) (bc + mc) (bs + ms) pc ls (as.reverse ++ .ref b :: st) h X := by
  intro p e R s m args below meth c A n0 ad0 Q hC hA hE ad H locs cells slots lr z
  have hst : ∀ v ∈ st, mm_vo h.1.length v := fun v hv => z.vs v (List.mem_append_right _ (List.mem_cons_of_mem _ hv))
  have has : ∀ v ∈ (.ref b :: as), mm_vo h.1.length v := fun v hv => by
    rcases List.mem_cons.mp hv with rfl | hv
    · exact z.vs _ (List.mem_append_right _ List.mem_cons_self)
    · exact z.vs _ (List.mem_append_left _ (List.mem_reverse.mpr hv))
  have r1 : (mm_rm d mc ms).frames + 1 ≤ R.frames := by have := hC.2.2.2.2.2.2.2.2.2.2.1; rw [mm_rmf]; omega
  have r2 : 8 + (M2.2.2.1 + 11) + (mm_rm d mc ms).locals ≤ R.locals := mm_r2 hL hC.2.2.2.2.2.2.2.2.2.2.2
  have r3 : cells + mc ≤ R.cells ∧ slots + ms ≤ R.slots := ⟨by have := z.2.2.2.2.2.2.2.1; omega, by have := z.2.2.2.2.2.2.2.2.1; omega⟩
  refine mm_after hC hA hE z hst (va_runIN (As := as.map (mm_rv ad)) (b := ad b) (rest := st.map (mm_rv ad)) (n := n) ⟨hC.1, hC.2.1, hC.2.2.1, hC.2.2.2.1, hC.2.2.2.2.1⟩ (hm z.2.2.2.2.1 has ad H.size) ⟨(by rw [← hret]; exact va_cnB n hC.2.2.2.2.1 (mm_good_in (mm_wm_in (hw _ (List.mem_cons_of_mem _ (List.mem_cons_of_mem _ (List.mem_cons_self)))))) rfl rfl rfl (hC.2.2.2.2.2.1 _ hlk) (hC.2.2.2.2.1 _ (hw _ (List.mem_cons_of_mem _ (List.mem_cons_self)))) hy ⟨r1, r2⟩), hi, (hC.2.2.2.2.1 _ (hw _ (List.mem_cons_self)))⟩ ⟨mm_blind, mm_pre hC z⟩ rfl (by rw [List.length_map]; exact hn) z.2.2.2.1.1 ?_ (lv_room (by rw [mm_rest]; exact hrest)) hd r3) k
  show (as.reverse ++ .ref b :: st).map (mm_rv ad) = _
  rw [List.map_append, List.map_reverse]
  rfl
end MMC
end
