section
-- ===== PART A: goes FIRST, ahead of the names: the tables' words, and 'selects' of the private methods out of them =====
/-- a private method of a class that the tables say can be made, by its rows of tables_1 -/
def lw_okq (q : MethodName × Nat) : Prop := (q.1.cls ≠ "java/lang/invoke/MethodHandle" ∧ q.1.cls ≠ "java/lang/invoke/VarHandle") ∧ Cond.instantiable q.1.cls q.2 ∈ tables_1 ∧ Cond.privateMethod q.1 ∈ tables_1 ∧ Cond.instanceMethod q.1 ∈ tables_1
theorem lw_p0 : lw_okq (⟨"EditGraph", "checkAuthor", "(I)V"⟩, 14) := ⟨⟨by decide +kernel, by decide +kernel⟩, List.mem_of_getElem? (i := 11) (by decide +kernel), List.mem_of_getElem? (i := 78) (by decide +kernel), List.mem_of_getElem? (i := 79) (by decide +kernel)⟩
theorem lw_p1 : lw_okq (⟨"java/lang/Throwable", "fillInStackTrace", "(I)Ljava/lang/Throwable;"⟩, 6) := ⟨⟨by decide +kernel, by decide +kernel⟩, List.mem_of_getElem? (i := 120) (by decide +kernel), List.mem_of_getElem? (i := 118) (by decide +kernel), List.mem_of_getElem? (i := 119) (by decide +kernel)⟩
theorem lw_p2 : lw_okq (⟨"EditGraph", "findText", "(J)I"⟩, 14) := ⟨⟨by decide +kernel, by decide +kernel⟩, List.mem_of_getElem? (i := 11) (by decide +kernel), List.mem_of_getElem? (i := 150) (by decide +kernel), List.mem_of_getElem? (i := 151) (by decide +kernel)⟩
theorem lw_p3 : lw_okq (⟨"EditGraph", "standingIn", "(J)J"⟩, 14) := ⟨⟨by decide +kernel, by decide +kernel⟩, List.mem_of_getElem? (i := 11) (by decide +kernel), List.mem_of_getElem? (i := 154) (by decide +kernel), List.mem_of_getElem? (i := 155) (by decide +kernel)⟩
theorem lw_p4 : lw_okq (⟨"EditGraph", "isInsert", "(I)Z"⟩, 14) := ⟨⟨by decide +kernel, by decide +kernel⟩, List.mem_of_getElem? (i := 11) (by decide +kernel), List.mem_of_getElem? (i := 164) (by decide +kernel), List.mem_of_getElem? (i := 165) (by decide +kernel)⟩
theorem lw_p5 : lw_okq (⟨"EditGraph", "putWaiting", "(II)I"⟩, 14) := ⟨⟨by decide +kernel, by decide +kernel⟩, List.mem_of_getElem? (i := 11) (by decide +kernel), List.mem_of_getElem? (i := 169) (by decide +kernel), List.mem_of_getElem? (i := 170) (by decide +kernel)⟩
theorem lw_p6 : lw_okq (⟨"EditGraph", "isEvent", "(I)Z"⟩, 14) := ⟨⟨by decide +kernel, by decide +kernel⟩, List.mem_of_getElem? (i := 11) (by decide +kernel), List.mem_of_getElem? (i := 173) (by decide +kernel), List.mem_of_getElem? (i := 174) (by decide +kernel)⟩
theorem lw_p7 : lw_okq (⟨"EditGraph", "putText", "(JII)I"⟩, 14) := ⟨⟨by decide +kernel, by decide +kernel⟩, List.mem_of_getElem? (i := 11) (by decide +kernel), List.mem_of_getElem? (i := 177) (by decide +kernel), List.mem_of_getElem? (i := 178) (by decide +kernel)⟩
theorem lw_p8 : lw_okq (⟨"EditGraph", "checkPlace", "(II)V"⟩, 14) := ⟨⟨by decide +kernel, by decide +kernel⟩, List.mem_of_getElem? (i := 11) (by decide +kernel), List.mem_of_getElem? (i := 181) (by decide +kernel), List.mem_of_getElem? (i := 182) (by decide +kernel)⟩
theorem lw_p9 : lw_okq (⟨"EditGraph", "checkRoom", "()V"⟩, 14) := ⟨⟨by decide +kernel, by decide +kernel⟩, List.mem_of_getElem? (i := 11) (by decide +kernel), List.mem_of_getElem? (i := 202) (by decide +kernel), List.mem_of_getElem? (i := 203) (by decide +kernel)⟩
theorem lw_p10 : lw_okq (⟨"EditGraph", "addEvent", "(III)I"⟩, 14) := ⟨⟨by decide +kernel, by decide +kernel⟩, List.mem_of_getElem? (i := 11) (by decide +kernel), List.mem_of_getElem? (i := 222) (by decide +kernel), List.mem_of_getElem? (i := 223) (by decide +kernel)⟩
theorem lw_p11 : lw_okq (⟨"EditGraph", "headsOf", "(J)J"⟩, 14) := ⟨⟨by decide +kernel, by decide +kernel⟩, List.mem_of_getElem? (i := 11) (by decide +kernel), List.mem_of_getElem? (i := 226) (by decide +kernel), List.mem_of_getElem? (i := 227) (by decide +kernel)⟩
theorem lw_p12 : lw_okq (⟨"EditGraph", "markLater", "(JI)V"⟩, 14) := ⟨⟨by decide +kernel, by decide +kernel⟩, List.mem_of_getElem? (i := 11) (by decide +kernel), List.mem_of_getElem? (i := 230) (by decide +kernel), List.mem_of_getElem? (i := 231) (by decide +kernel)⟩
theorem lw_p13 : lw_okq (⟨"EditGraph", "hangLetter", "(II)V"⟩, 14) := ⟨⟨by decide +kernel, by decide +kernel⟩, List.mem_of_getElem? (i := 11) (by decide +kernel), List.mem_of_getElem? (i := 234) (by decide +kernel), List.mem_of_getElem? (i := 235) (by decide +kernel)⟩
theorem lw_p14 : lw_okq (⟨"EditGraph", "addKnown", "(IJ)I"⟩, 14) := ⟨⟨by decide +kernel, by decide +kernel⟩, List.mem_of_getElem? (i := 11) (by decide +kernel), List.mem_of_getElem? (i := 252) (by decide +kernel), List.mem_of_getElem? (i := 253) (by decide +kernel)⟩
theorem lw_p15 : lw_okq (⟨"EditGraph", "checkEvent", "(I)V"⟩, 14) := ⟨⟨by decide +kernel, by decide +kernel⟩, List.mem_of_getElem? (i := 11) (by decide +kernel), List.mem_of_getElem? (i := 269) (by decide +kernel), List.mem_of_getElem? (i := 270) (by decide +kernel)⟩
def lw_privs_1 : List (MethodName × Nat) := [(⟨"EditGraph", "checkAuthor", "(I)V"⟩, 14), (⟨"java/lang/Throwable", "fillInStackTrace", "(I)Ljava/lang/Throwable;"⟩, 6), (⟨"EditGraph", "findText", "(J)I"⟩, 14), (⟨"EditGraph", "standingIn", "(J)J"⟩, 14), (⟨"EditGraph", "isInsert", "(I)Z"⟩, 14), (⟨"EditGraph", "putWaiting", "(II)I"⟩, 14), (⟨"EditGraph", "isEvent", "(I)Z"⟩, 14), (⟨"EditGraph", "putText", "(JII)I"⟩, 14), (⟨"EditGraph", "checkPlace", "(II)V"⟩, 14), (⟨"EditGraph", "checkRoom", "()V"⟩, 14), (⟨"EditGraph", "addEvent", "(III)I"⟩, 14), (⟨"EditGraph", "headsOf", "(J)J"⟩, 14), (⟨"EditGraph", "markLater", "(JI)V"⟩, 14), (⟨"EditGraph", "hangLetter", "(II)V"⟩, 14), (⟨"EditGraph", "addKnown", "(IJ)I"⟩, 14), (⟨"EditGraph", "checkEvent", "(I)V"⟩, 14)]
theorem lw_r1 : ∀ q ∈ lw_privs_1, lw_okq q := List.forall_mem_cons.mpr ⟨lw_p0, List.forall_mem_cons.mpr ⟨lw_p1, List.forall_mem_cons.mpr ⟨lw_p2, List.forall_mem_cons.mpr ⟨lw_p3, List.forall_mem_cons.mpr ⟨lw_p4, List.forall_mem_cons.mpr ⟨lw_p5, List.forall_mem_cons.mpr ⟨lw_p6, List.forall_mem_cons.mpr ⟨lw_p7, List.forall_mem_cons.mpr ⟨lw_p8, List.forall_mem_cons.mpr ⟨lw_p9, List.forall_mem_cons.mpr ⟨lw_p10, List.forall_mem_cons.mpr ⟨lw_p11, List.forall_mem_cons.mpr ⟨lw_p12, List.forall_mem_cons.mpr ⟨lw_p13, List.forall_mem_cons.mpr ⟨lw_p14, List.forall_mem_cons.mpr ⟨lw_p15, fun _ h => absurd h List.not_mem_nil⟩⟩⟩⟩⟩⟩⟩⟩⟩⟩⟩⟩⟩⟩⟩⟩
theorem lw_p16 : lw_okq (⟨"EditGraph", "versionOfEvent", "(I)J"⟩, 14) := ⟨⟨by decide +kernel, by decide +kernel⟩, List.mem_of_getElem? (i := 11) (by decide +kernel), List.mem_of_getElem? (i := 274) (by decide +kernel), List.mem_of_getElem? (i := 275) (by decide +kernel)⟩
theorem lw_p17 : lw_okq (⟨"EditGraph", "eventInText", "(JI)I"⟩, 14) := ⟨⟨by decide +kernel, by decide +kernel⟩, List.mem_of_getElem? (i := 11) (by decide +kernel), List.mem_of_getElem? (i := 292) (by decide +kernel), List.mem_of_getElem? (i := 293) (by decide +kernel)⟩
theorem lw_p18 : lw_okq (⟨"EditGraph", "findTextByList", "(J)I"⟩, 14) := ⟨⟨by decide +kernel, by decide +kernel⟩, List.mem_of_getElem? (i := 11) (by decide +kernel), List.mem_of_getElem? (i := 303) (by decide +kernel), List.mem_of_getElem? (i := 304) (by decide +kernel)⟩
theorem lw_p19 : lw_okq (⟨"EditGraph", "layList", "(J)I"⟩, 14) := ⟨⟨by decide +kernel, by decide +kernel⟩, List.mem_of_getElem? (i := 11) (by decide +kernel), List.mem_of_getElem? (i := 307) (by decide +kernel), List.mem_of_getElem? (i := 308) (by decide +kernel)⟩
theorem lw_p20 : lw_okq (⟨"EditGraph", "relatedTo", "(I)J"⟩, 14) := ⟨⟨by decide +kernel, by decide +kernel⟩, List.mem_of_getElem? (i := 11) (by decide +kernel), List.mem_of_getElem? (i := 388) (by decide +kernel), List.mem_of_getElem? (i := 389) (by decide +kernel)⟩
theorem lw_p21 : lw_okq (⟨"EditGraph", "criticalOf", "(J)J"⟩, 14) := ⟨⟨by decide +kernel, by decide +kernel⟩, List.mem_of_getElem? (i := 11) (by decide +kernel), List.mem_of_getElem? (i := 399) (by decide +kernel), List.mem_of_getElem? (i := 400) (by decide +kernel)⟩
theorem lw_p22 : lw_okq (⟨"EditGraph", "continuesRun", "(I)Z"⟩, 14) := ⟨⟨by decide +kernel, by decide +kernel⟩, List.mem_of_getElem? (i := 11) (by decide +kernel), List.mem_of_getElem? (i := 417) (by decide +kernel), List.mem_of_getElem? (i := 418) (by decide +kernel)⟩
theorem lw_p23 : lw_okq (⟨"EditGraphModel", "looks", "(I)Z"⟩, 10) := ⟨⟨by decide +kernel, by decide +kernel⟩, List.mem_of_getElem? (i := 421) (by decide +kernel), List.mem_of_getElem? (i := 466) (by decide +kernel), List.mem_of_getElem? (i := 467) (by decide +kernel)⟩
theorem lw_p24 : lw_okq (⟨"EditGraphModel", "reads", "(J)V"⟩, 10) := ⟨⟨by decide +kernel, by decide +kernel⟩, List.mem_of_getElem? (i := 421) (by decide +kernel), List.mem_of_getElem? (i := 476) (by decide +kernel), List.mem_of_getElem? (i := 477) (by decide +kernel)⟩
theorem lw_p25 : lw_okq (⟨"EditGraphModel", "asked", "(ZZZ)Z"⟩, 10) := ⟨⟨by decide +kernel, by decide +kernel⟩, List.mem_of_getElem? (i := 421) (by decide +kernel), List.mem_of_getElem? (i := 483) (by decide +kernel), List.mem_of_getElem? (i := 484) (by decide +kernel)⟩
theorem lw_p26 : lw_okq (⟨"EditGraphModel", "makes", "(III)I"⟩, 10) := ⟨⟨by decide +kernel, by decide +kernel⟩, List.mem_of_getElem? (i := 421) (by decide +kernel), List.mem_of_getElem? (i := 487) (by decide +kernel), List.mem_of_getElem? (i := 488) (by decide +kernel)⟩
theorem lw_p27 : lw_okq (⟨"EditGraphModel", "headsOf", "(J)J"⟩, 10) := ⟨⟨by decide +kernel, by decide +kernel⟩, List.mem_of_getElem? (i := 421) (by decide +kernel), List.mem_of_getElem? (i := 491) (by decide +kernel), List.mem_of_getElem? (i := 492) (by decide +kernel)⟩
theorem lw_p28 : lw_okq (⟨"EditGraphModel", "asked", "(ZZ)Z"⟩, 10) := ⟨⟨by decide +kernel, by decide +kernel⟩, List.mem_of_getElem? (i := 421) (by decide +kernel), List.mem_of_getElem? (i := 500) (by decide +kernel), List.mem_of_getElem? (i := 501) (by decide +kernel)⟩
theorem lw_p29 : lw_okq (⟨"EditGraphModel", "asked", "(Z)Z"⟩, 10) := ⟨⟨by decide +kernel, by decide +kernel⟩, List.mem_of_getElem? (i := 421) (by decide +kernel), List.mem_of_getElem? (i := 508) (by decide +kernel), List.mem_of_getElem? (i := 509) (by decide +kernel)⟩
theorem lw_p30 : lw_okq (⟨"EditGraphModel", "learns", "(IJ)I"⟩, 10) := ⟨⟨by decide +kernel, by decide +kernel⟩, List.mem_of_getElem? (i := 421) (by decide +kernel), List.mem_of_getElem? (i := 512) (by decide +kernel), List.mem_of_getElem? (i := 513) (by decide +kernel)⟩
theorem lw_p31 : lw_okq (⟨"EditGraphModel", "count", "(J)I"⟩, 10) := ⟨⟨by decide +kernel, by decide +kernel⟩, List.mem_of_getElem? (i := 421) (by decide +kernel), List.mem_of_getElem? (i := 516) (by decide +kernel), List.mem_of_getElem? (i := 517) (by decide +kernel)⟩
def lw_privs_2 : List (MethodName × Nat) := [(⟨"EditGraph", "versionOfEvent", "(I)J"⟩, 14), (⟨"EditGraph", "eventInText", "(JI)I"⟩, 14), (⟨"EditGraph", "findTextByList", "(J)I"⟩, 14), (⟨"EditGraph", "layList", "(J)I"⟩, 14), (⟨"EditGraph", "relatedTo", "(I)J"⟩, 14), (⟨"EditGraph", "criticalOf", "(J)J"⟩, 14), (⟨"EditGraph", "continuesRun", "(I)Z"⟩, 14), (⟨"EditGraphModel", "looks", "(I)Z"⟩, 10), (⟨"EditGraphModel", "reads", "(J)V"⟩, 10), (⟨"EditGraphModel", "asked", "(ZZZ)Z"⟩, 10), (⟨"EditGraphModel", "makes", "(III)I"⟩, 10), (⟨"EditGraphModel", "headsOf", "(J)J"⟩, 10), (⟨"EditGraphModel", "asked", "(ZZ)Z"⟩, 10), (⟨"EditGraphModel", "asked", "(Z)Z"⟩, 10), (⟨"EditGraphModel", "learns", "(IJ)I"⟩, 10), (⟨"EditGraphModel", "count", "(J)I"⟩, 10)]
theorem lw_r2 : ∀ q ∈ lw_privs_2, lw_okq q := List.forall_mem_cons.mpr ⟨lw_p16, List.forall_mem_cons.mpr ⟨lw_p17, List.forall_mem_cons.mpr ⟨lw_p18, List.forall_mem_cons.mpr ⟨lw_p19, List.forall_mem_cons.mpr ⟨lw_p20, List.forall_mem_cons.mpr ⟨lw_p21, List.forall_mem_cons.mpr ⟨lw_p22, List.forall_mem_cons.mpr ⟨lw_p23, List.forall_mem_cons.mpr ⟨lw_p24, List.forall_mem_cons.mpr ⟨lw_p25, List.forall_mem_cons.mpr ⟨lw_p26, List.forall_mem_cons.mpr ⟨lw_p27, List.forall_mem_cons.mpr ⟨lw_p28, List.forall_mem_cons.mpr ⟨lw_p29, List.forall_mem_cons.mpr ⟨lw_p30, List.forall_mem_cons.mpr ⟨lw_p31, fun _ h => absurd h List.not_mem_nil⟩⟩⟩⟩⟩⟩⟩⟩⟩⟩⟩⟩⟩⟩⟩⟩
theorem lw_p32 : lw_okq (⟨"EditGraphModel", "isEvent", "(I)Z"⟩, 10) := ⟨⟨by decide +kernel, by decide +kernel⟩, List.mem_of_getElem? (i := 421) (by decide +kernel), List.mem_of_getElem? (i := 524) (by decide +kernel), List.mem_of_getElem? (i := 525) (by decide +kernel)⟩
theorem lw_p33 : lw_okq (⟨"EditGraphModel", "versionOf", "(I)J"⟩, 10) := ⟨⟨by decide +kernel, by decide +kernel⟩, List.mem_of_getElem? (i := 421) (by decide +kernel), List.mem_of_getElem? (i := 528) (by decide +kernel), List.mem_of_getElem? (i := 529) (by decide +kernel)⟩
theorem lw_p34 : lw_okq (⟨"EditGraphModel", "looksAt", "(I)Z"⟩, 10) := ⟨⟨by decide +kernel, by decide +kernel⟩, List.mem_of_getElem? (i := 421) (by decide +kernel), List.mem_of_getElem? (i := 557) (by decide +kernel), List.mem_of_getElem? (i := 558) (by decide +kernel)⟩
theorem lw_p35 : lw_okq (⟨"EditGraphModel", "areConcurrent", "(II)Z"⟩, 10) := ⟨⟨by decide +kernel, by decide +kernel⟩, List.mem_of_getElem? (i := 421) (by decide +kernel), List.mem_of_getElem? (i := 597) (by decide +kernel), List.mem_of_getElem? (i := 598) (by decide +kernel)⟩
theorem lw_p36 : lw_okq (⟨"EditGraphModel", "criticals", "(I)J"⟩, 10) := ⟨⟨by decide +kernel, by decide +kernel⟩, List.mem_of_getElem? (i := 421) (by decide +kernel), List.mem_of_getElem? (i := 605) (by decide +kernel), List.mem_of_getElem? (i := 606) (by decide +kernel)⟩
theorem lw_p37 : lw_okq (⟨"EditGraphModel", "goesOn", "(I)Z"⟩, 10) := ⟨⟨by decide +kernel, by decide +kernel⟩, List.mem_of_getElem? (i := 421) (by decide +kernel), List.mem_of_getElem? (i := 617) (by decide +kernel), List.mem_of_getElem? (i := 618) (by decide +kernel)⟩
def lw_privs_3 : List (MethodName × Nat) := [(⟨"EditGraphModel", "isEvent", "(I)Z"⟩, 10), (⟨"EditGraphModel", "versionOf", "(I)J"⟩, 10), (⟨"EditGraphModel", "looksAt", "(I)Z"⟩, 10), (⟨"EditGraphModel", "areConcurrent", "(II)Z"⟩, 10), (⟨"EditGraphModel", "criticals", "(I)J"⟩, 10), (⟨"EditGraphModel", "goesOn", "(I)Z"⟩, 10)]
theorem lw_r3 : ∀ q ∈ lw_privs_3, lw_okq q := List.forall_mem_cons.mpr ⟨lw_p32, List.forall_mem_cons.mpr ⟨lw_p33, List.forall_mem_cons.mpr ⟨lw_p34, List.forall_mem_cons.mpr ⟨lw_p35, List.forall_mem_cons.mpr ⟨lw_p36, List.forall_mem_cons.mpr ⟨lw_p37, fun _ h => absurd h List.not_mem_nil⟩⟩⟩⟩⟩⟩
def lw_privs : List (MethodName × Nat) := lw_privs_1 ++ (lw_privs_2 ++ (lw_privs_3))
def lw_tbl : List Cond := k2_sels lw_privs ++ tables_1
theorem lw_privs_ok : ∀ q ∈ lw_privs, lw_okq q := by
  show ∀ q ∈ lw_privs_1 ++ (lw_privs_2 ++ (lw_privs_3)), lw_okq q
  exact List.forall_mem_append.mpr ⟨lw_r1, List.forall_mem_append.mpr ⟨lw_r2, lw_r3⟩⟩
end
section
/-! ===== BEGIN words of one list among another's, by their places ===== -/
theorem goodIn_r {big : List Cond} (ws : List Cond) (ps : List Nat) (hp : ws = ps.filterMap (fun i => big[i]?)) (h : ws.all goodWord = true) : GoodIn big ws := by
  intro w hw
  have h1 := List.all_eq_true.mp h w hw
  rw [hp] at hw
  obtain ⟨i, -, hi⟩ := List.mem_filterMap.mp hw
  have hm : w ∈ big := by first | exact List.mem_of_getElem? hi | exact List.getElem?_mem hi
  exact ⟨hm, good_of_word h1⟩
theorem goodIn_app {big a b : List Cond} (ha : GoodIn big a) (hb : GoodIn big b) : GoodIn big (a ++ b) := fun w h => (List.mem_append.mp h).elim (ha w) (hb w)
theorem goodIn_ca {big a b : List Cond} {c : Cond} (ha : GoodIn big (c :: a)) (hb : GoodIn big b) : GoodIn big (c :: (a ++ b)) := fun w h => (List.mem_cons.mp h).elim (fun e => ha w (List.mem_cons.mpr (Or.inl e))) (fun h => (List.mem_append.mp h).elim (fun h => ha w (List.mem_cons.mpr (Or.inr h))) (hb w))
theorem goodIn_sub {big ws : List Cond} (hm : ∀ w ∈ ws, w ∈ big) (h : ws.all goodWord = true) : GoodIn big ws := fun w hw => ⟨hm w hw, good_of_word (List.all_eq_true.mp h w hw)⟩
/-! ===== END ===== -/

/-! ===== BEGIN exceptions that leave a method, and their catching by the caller (launches without stack traces) ===== -/
section VXA
/-! The laws vx_back, vx_callV, vx_callS, vx_callSW, vx_throw0, vx_throwS follow proofs of the library, with one case more: JvmDerived/Free/Laws.lean (Back.of_free), Shelf42/LK1.lean (callV, callS), Shelf/KitTraced.lean (throwNew0V, throwNewS). -/
/-- where a method has thrown q: the class by its name, the cell, what was written, the world -/
def vx_T (XC : String → State → State → Prop) (st : State) (q : Addr) (t : State) (mc ms : Nat) (free : Addr → Prop) : Prop :=
  ∃ (E : String) (ce : Cell) (L : List Loc), XC E st t ∧ t.heap[q]? = some ce ∧ ce.vm = .none ∧ st.vm.findClass E = some ce.cls ∧ st.WarmedH t.vm ∧ st.sameButNew ({ t with vm := st.vm } : State) L mc ms ∧ ∀ z ∈ L, free z.base
def vx_Q (Qc : Array Value → State → Outcome → State → Prop) (XC : String → State → State → Prop) (mc ms : Nat) (free : Addr → Prop) : Array Value → State → Outcome → State → Prop := fun a st o t =>
  (Qc a st o t ∧ ∃ L, FrameEnd st o t L mc ms ∧ ∀ q ∈ L, free q.base) ∨ ∃ q, o = .threw q ∧ vx_T XC st q t mc ms free
/-- a callee that returns or throws -/
def vx_Met (l : Launch) (y : MethodName) (ws : List Cond) (rm : Room) (Pc : Array Value → State → Prop) (Qc : Array Value → State → Outcome → State → Prop) (XC : String → State → State → Prop) (mc ms : Nat) (free : Addr → Prop) : Prop :=
  MetFree l y (headSpec ws rm) Pc (fun _ _ _ _ _ => True) (vx_Q Qc XC mc ms free)
def vx_Post (XC : String → State → State → Prop) (mc ms : Nat) (free : Addr → Prop) : Pt → Array Value → Addr → Pt → Prop := fun A a q B =>
  ∃ (g : JFrame) (mk : MethodId) (t : State) (L : List Loc) (E : String) (ce : Cell), B.U.heap = t.heap ∧ B.U.vm = t.vm ∧ XC E (A.U.calling g mk a) t ∧ t.heap[q]? = some ce ∧ ce.vm = .none ∧ A.U.vm.findClass E = some ce.cls ∧ B.locs = A.locs ++ L ∧ (∀ z ∈ L, free z.base) ∧ B.cells = A.cells + mc ∧ B.slots = A.slots + ms
def vx_Back (l : Launch) (R : Room) (p : Program) (e : Env) (below : List Frame) (s : State) (sargs : Array Value) (y : MethodName) (len W9 : Nat)
    (Pre : Pt → Array Value → Prop) (Post : Pt → Array Value → Option Value → Pt → Prop) (PostX : Pt → Array Value → Addr → Pt → Prop) : Prop :=
  ∀ (m : MethodId) (meth : Method) (c : Code) (A : Pt) (g : JFrame) (ig : Instr) (mk : MethodId) (a : Array Value),
    Stand p l e R s m sargs below meth c A.U A.locs A.cells A.slots → g.method = m → g.locals.size = c.maxLocals → decode c.code g.pc = .ok (ig, len) →
    2 * g.monitorRoom + (g.stack.map fun v => v.category).sum ≤ W9 → A.U.methodNamed? y = some mk → Pre A a →
    (∃ (v : Option Value) (B : Pt), Stand p l e R s m sargs below meth c B.U B.locs B.cells B.slots ∧ Post A a v B ∧
      Steps p.tables e below (doInvoke e (A.U.setTop g) [] mk a).1 (B.U.setTop { g with pc := g.pc + len, stack := v.toList ++ g.stack })) ∨
    (∃ (q : Addr) (B : Pt), Stand p l e R s m sargs below meth c B.U B.locs B.cells B.slots ∧ PostX A a q B ∧
      Steps p.tables e below (doInvoke e (A.U.setTop g) [] mk a).1 ((B.U.setTop g).pushFrame (.throwing q)))
section Payer
variable {l : Launch} {R : Room} {p : Program} {e : Env} {below : List Frame} {s : State} {sargs : Array Value} {y : MethodName} {len W9 : Nat}
theorem vx_back {ws : List Cond} {rm : Room} {Pc : Array Value → State → Prop} {Qc : Array Value → State → Outcome → State → Prop} {XC : String → State → State → Prop} {mc ms : Nat} {free : Addr → Prop} {bytes : ByteArray} {maxL : Nat} {ret : Option FieldType}
    (hM : vx_Met l y ws rm Pc Qc XC mc ms free) (hblind : FrameBlind Pc) (hrc : rm.cells = mc) (hrs : rm.slots = ms)
    (hframes : rm.frames + 1 ≤ R.frames) (hlocals : W9 + (maxL + 11) + rm.locals ≤ R.locals)
    (hws : ∀ w ∈ ws, ∀ a' U, s.WarmedH U.vm → w.before a' U = true) (hcode : Cond.code y bytes maxL ret ∈ ws) (hinit : ∀ a' U, s.WarmedH U.vm → (Cond.initialized y.cls).before a' U = true) :
    vx_Back l R p e below s sargs y len W9 (PreOf R mc ms Pc) (PostOf Qc mc ms free) (vx_Post XC mc ms free) := by
  intro m meth c A g ig mk a X hg hsize hdg hW hn hp
  have h1 : (headSpec ws rm).pre.before a A.U = true := atoms_intro fun w hw => hws w hw _ _ X.warmed
  have h2 : (Cond.code y bytes maxL ret).before a A.U = true := hws _ hcode _ _ X.warmed
  have h3 : (Cond.initialized y.cls).before a A.U = true := hinit _ _ X.warmed
  have h4 : A.cells + (headSpec ws rm).room.cells ≤ R.cells := by rw [show (headSpec ws rm).room.cells = mc from hrc]; exact hp.1
  have h5 : A.slots + (headSpec ws rm).room.slots ≤ R.slots := by rw [show (headSpec ws rm).room.slots = ms from hrs]; exact hp.2.1
  have hPc : Pc a (A.U.calling g mk a) := hblind _ _ _ _ hp.2.2
  obtain ⟨U, Ls, c0, s0⟩ := A
  dsimp only [Pt.U, Pt.locs, Pt.cells, Pt.slots] at h1 h2 h3 h4 h5 X hn hPc ⊢
  obtain ⟨methY, cY, hmY, hcY, -, hlY, -, -, -, -⟩ := Cond.code_spec hn h2
  obtain ⟨kY, hkY, -⟩ := className_of_methodNamed hn
  have hinitY : kY.init = .initialized := Cond.initialized_spec (findClass_of_methodNamed hn) hkY h3
  have h : At U g.method c below := by rw [hg]; exact X.here
  have hlocals9 : W9 + (maxL + 11) + (headSpec ws rm).room.locals ≤ R.locals := hlocals
  have happ : (headSpec ws rm).appliesLoose y e.platform (U.calling g mk a) = true :=
    Spec.appliesLoose_calling (g := g) h hdg hn hkY hinitY
      (X.room_calling (g := g) (R' := (headSpec ws rm).room) hsize hmY hcY hframes (by rw [hlY]; omega) h4 h5) h1
  obtain ⟨mid, hmid⟩ := h.above
  have hfr : (U.setTop g).frames = (.java g :: mid) ++ below := by rw [State.frames_setTop' g h.top, hmid]; rfl
  obtain ⟨o, s₂, hsteps, -, hend, hq⟩ := Steps.callFree hM p X.admits X.cas X.clock (acts := []) hfr happ hPc trivial
  have hq' : vx_Q Qc XC mc ms free a (U.calling g mk a) o s₂ := hq
  rw [State.frames_setTop' g h.top] at hend
  obtain ⟨g₀, hg0⟩ := Option.isSome_iff_exists.mp h.top
  obtain ⟨r, hr⟩ := State.topJava?_eq_some.mp hg0
  have hr' : (({ U with heap := s₂.heap, slotsUsed := s₂.slotsUsed } : State).setVm s₂.vm).frames = .java g₀ :: r := hr
  rcases hq' with ⟨hqc, L, hfe, hL⟩ | ⟨q, rfl, E, ce, L, hx, hce, hcv, hcl, hW₂, hsm, hL⟩
  · obtain ⟨⟨v, rfl⟩, hW₂, e2, q2, q3, q4, q5, q6⟩ := id hfe
    have e3 : s₂ = ({ (U.calling g mk a).setFrames s₂.frames with heap := s₂.heap, slotsUsed := s₂.slotsUsed } : State).setVm s₂.vm := by
      have : s₂ = ({ s₂ with vm := (U.calling g mk a).vm } : State).setVm s₂.vm := rfl
      rw [e2] at this
      exact this
    obtain ⟨c₂, i₂, len₂, hc₂, hd₂, hf₂⟩ := hend
    have hW' : U.WarmedH s₂.vm := hW₂
    have hcc : c₂ = c := by
      have h1 : s₂.code? g.method = U.code? g.method := by
        rw [State.code?_eq, State.code?_eq, hW'.alike.method?]
      exact Option.some.inj (hc₂.symm.trans (h1.trans h.code))
    subst hcc
    have hlen : len₂ = len := by rw [hdg] at hd₂; cases hd₂; rfl
    subst hlen
    have hs₂ : s₂ = (({ U with heap := s₂.heap, slotsUsed := s₂.slotsUsed } : State).setVm s₂.vm).setTop { g with pc := g.pc + len₂, stack := v.toList ++ g.stack } := by
      refine e3.trans ?_
      rw [hf₂, State.calling_eq h.top, State.setFrames_setFrames, State.setTop_of_frames _ hr', hr]
      rfl
    have hsame : U.sameButNew ({ U with heap := s₂.heap, slotsUsed := s₂.slotsUsed } : State) L mc ms := by
      refine ⟨?_, q2, q3, q4, q5, q6⟩
      obtain ⟨t, ht, -⟩ := State.frames_cons hr
      show ({ U with heap := s₂.heap, slotsUsed := s₂.slotsUsed } : State) = { U.setFrames U.frames with heap := s₂.heap, slotsUsed := s₂.slotsUsed }
      rw [State.setFrames_self ht]
    subst hg
    refine Or.inl ⟨v, ⟨(({ U with heap := s₂.heap, slotsUsed := s₂.slotsUsed } : State).setVm s₂.vm), Ls ++ L, c0 + mc, s0 + ms⟩,
      ⟨X.admits, X.cas, X.clock, X.frames, X.room, X.hears, X.method, X.code, (X.here.setHeapUsed s₂.heap s₂.slotsUsed).setVm hW'.alike, X.tail, State.WarmedH.trans X.warmed hW', X.limits, X.bytes, X.same.trans (hsame.setVm s.vm)⟩,
      ⟨g, mk, s₂, L, rfl, rfl, hqc, rfl, hL, rfl, rfl⟩, ?_⟩
    show Steps p.tables e below _ ((({ U with heap := s₂.heap, slotsUsed := s₂.slotsUsed } : State).setVm s₂.vm).setTop { g with pc := g.pc + len₂, stack := v.toList ++ g.stack })
    rw [← hs₂]
    exact hsteps
  · obtain ⟨e2, q2, q3, q4, q5, q6⟩ := id hsm
    have e3 : s₂ = ({ (U.calling g mk a).setFrames s₂.frames with heap := s₂.heap, slotsUsed := s₂.slotsUsed } : State).setVm s₂.vm := by
      have : s₂ = ({ s₂ with vm := (U.calling g mk a).vm } : State).setVm s₂.vm := rfl
      rw [e2] at this
      exact this
    have hf₂ : s₂.frames = .throwing q :: .java g :: U.frames.tail := hend
    have hW' : U.WarmedH s₂.vm := hW₂
    have hs₂ : s₂ = ((({ U with heap := s₂.heap, slotsUsed := s₂.slotsUsed } : State).setVm s₂.vm).setTop g).pushFrame (.throwing q) := by
      refine e3.trans ?_
      rw [hf₂, State.calling_eq h.top, State.setFrames_setFrames, State.pushFrame, State.frames_setTop _ hr', State.setTop_of_frames _ hr', State.setFrames_setFrames, hr]
      rfl
    have hsame : U.sameButNew ({ U with heap := s₂.heap, slotsUsed := s₂.slotsUsed } : State) L mc ms := by
      refine ⟨?_, q2, q3, q4, q5, q6⟩
      obtain ⟨t, ht, -⟩ := State.frames_cons hr
      show ({ U with heap := s₂.heap, slotsUsed := s₂.slotsUsed } : State) = { U.setFrames U.frames with heap := s₂.heap, slotsUsed := s₂.slotsUsed }
      rw [State.setFrames_self ht]
    subst hg
    refine Or.inr ⟨q, ⟨(({ U with heap := s₂.heap, slotsUsed := s₂.slotsUsed } : State).setVm s₂.vm), Ls ++ L, c0 + mc, s0 + ms⟩,
      ⟨X.admits, X.cas, X.clock, X.frames, X.room, X.hears, X.method, X.code, (X.here.setHeapUsed s₂.heap s₂.slotsUsed).setVm hW'.alike, X.tail, State.WarmedH.trans X.warmed hW', X.limits, X.bytes, X.same.trans (hsame.setVm s.vm)⟩,
      ⟨g, mk, s₂, L, E, ce, rfl, rfl, hx, hce, hcv, hcl, rfl, hL, rfl, rfl⟩, ?_⟩
    show Steps p.tables e below _ (((({ U with heap := s₂.heap, slotsUsed := s₂.slotsUsed } : State).setVm s₂.vm).setTop g).pushFrame (.throwing q))
    rw [← hs₂]
    exact hsteps
end Payer
section Calls
variable {p : Program} {l : Launch} {e : Env} {R : Room} {s : State} {m : MethodId} {args : Array Value} {below : List Frame} {meth : Method} {c : Code} {T : State} {locs : List Loc} {cells slots : Nat}
theorem vx_callV (X : Stand p l e R s m args below meth c T locs cells slots) (hexec : p.tables.exec = Jvm.exec) {own C : String} {index : Nat} {y : MethodName} {bytes : ByteArray} {maxL : Nat} {ret : Option FieldType}
    (hown : s.vm.findClass own = some m.cls) (hlink : (Cond.methodLink own index y).before args s = true) (hinst : (Cond.instanceMethod y).before args s = true) (hsel : (Cond.selects C y y).before args s = true)
    (hcode : (Cond.code y bytes maxL ret).before args s = true) (hy : y.cls ≠ "java/lang/invoke/MethodHandle" ∧ y.cls ≠ "java/lang/invoke/VarHandle")
    {W9 : Nat} {Pre : Pt → Array Value → Prop} {Post : Pt → Array Value → Option Value → Pt → Prop} {PostX : Pt → Array Value → Addr → Pt → Prop} (hK : vx_Back l R p e below s args y 3 W9 Pre Post PostX)
    {b : Addr} {cellB : Cell} (hcell : T.heap[b]? = some cellB) (hobj : cellB.vm.isStatics = false) (hcls : s.vm.findClass C = some cellB.cls)
    {g : JFrame} (hg : g.method = m) (hsize : g.locals.size = c.maxLocals) {argsL rest : List Value} (hlen : ∀ sig, parseMethodDescriptor y.desc = some sig → argsL.length = sig.parameters.length)
    (hstack : g.stack = argsL.reverse ++ .ref b :: rest) (hW : 2 * g.monitorRoom + (rest.map fun v => v.category).sum ≤ W9) (hdg : decode c.code g.pc = .ok (.invokevirtual index, 3))
    (hpre : ∀ vm₁, s.WarmedH vm₁ → Pre ⟨T.setVm vm₁, locs, cells, slots⟩ (Value.ref b :: argsL).toArray) :
    (∃ (v : Option Value) (vm₁ : Vm) (B : Pt), s.WarmedH vm₁ ∧ Stand p l e R s m args below meth c B.U B.locs B.cells B.slots ∧ Post ⟨T.setVm vm₁, locs, cells, slots⟩ (Value.ref b :: argsL).toArray v B ∧
      ∀ target, Steps p.tables e below (B.U.setTop { g with pc := g.pc + 3, stack := v.toList ++ rest }) target → Steps p.tables e below (T.setTop g) target) ∨
    (∃ (q : Addr) (vm₁ : Vm) (B : Pt), s.WarmedH vm₁ ∧ Stand p l e R s m args below meth c B.U B.locs B.cells B.slots ∧ PostX ⟨T.setVm vm₁, locs, cells, slots⟩ (Value.ref b :: argsL).toArray q B ∧
      Steps p.tables e below (T.setTop g) ((B.U.setTop { g with stack := rest }).pushFrame (.throwing q))) := by
  obtain ⟨mk, methM, hnamed, hmethM, hstM, habM⟩ := Cond.instanceMethod_spec hinst
  obtain ⟨methM', cM, hmethM', -, -, -, -, -, -, hsigM⟩ := Cond.code_spec hnamed hcode
  cases hmethM.symm.trans hmethM'
  obtain ⟨c2, r2, m2, q1, q2, q3, q4, kP, hkP, hkPi⟩ := Cond.selects_spec hsel
  cases hcls.symm.trans q1
  cases (State.methodFound?_of_named hnamed hy).symm.trans q2
  cases hnamed.symm.trans q3
  have hselP : selectMethod e.platform s.vm cellB.cls mk = .method mk := by rw [Launch.admits_selectMethod X.admits]; exact q4
  obtain ⟨vm₁, X₁, hstep₁⟩ := X.invokevirtual hexec hown hlink hnamed hmethM hstM hkP hkPi hy (a := b) (cell := cellB) hcell
    (fun z h => by rw [h] at hobj; cases hobj) hselP hmethM habM hkP hkPi (g := g) hg (argsL := argsL) (rest := rest) (hlen _ hsigM) hstack hdg
  rcases hK m meth c ⟨T.setVm vm₁, locs, cells, slots⟩ { g with stack := rest } (.invokevirtual index) mk (Value.ref b :: argsL).toArray X₁ hg hsize hdg hW (X₁.named hnamed) (hpre vm₁ X₁.warmed) with ⟨v, B, X', hpost, hsteps⟩ | ⟨q, B, X', hpost, hsteps⟩
  · exact Or.inl ⟨v, vm₁, B, X₁.warmed, X', hpost, fun target h => hstep₁ _ fun acts => by rw [doInvoke_state]; exact hsteps.trans h⟩
  · exact Or.inr ⟨q, vm₁, B, X₁.warmed, X', hpost, hstep₁ _ fun acts => by rw [doInvoke_state]; exact hsteps⟩
theorem vx_callS (X : Stand p l e R s m args below meth c T locs cells slots) (hexec : p.tables.exec = Jvm.exec) {own : String} {index : Nat} {y : MethodName} {bytes : ByteArray} {maxL : Nat} {ret : Option FieldType}
    (hown : s.vm.findClass own = some m.cls) (hlink : (Cond.methodLink own index y).before args s = true) (hstat : (Cond.static y).before args s = true) (hinit : (Cond.initialized y.cls).before args s = true)
    (hcode : (Cond.code y bytes maxL ret).before args s = true) (hy : y.cls ≠ "java/lang/invoke/MethodHandle" ∧ y.cls ≠ "java/lang/invoke/VarHandle")
    {W9 : Nat} {Pre : Pt → Array Value → Prop} {Post : Pt → Array Value → Option Value → Pt → Prop} {PostX : Pt → Array Value → Addr → Pt → Prop} (hK : vx_Back l R p e below s args y 3 W9 Pre Post PostX)
    {g : JFrame} (hg : g.method = m) (hsize : g.locals.size = c.maxLocals) {argsL rest : List Value} (hlen : ∀ sig, parseMethodDescriptor y.desc = some sig → argsL.length = sig.parameters.length)
    (hstack : g.stack = argsL.reverse ++ rest) (hW : 2 * g.monitorRoom + (rest.map fun v => v.category).sum ≤ W9) (hdg : decode c.code g.pc = .ok (.invokestatic index, 3))
    (hpre : ∀ vm₁, s.WarmedH vm₁ → Pre ⟨T.setVm vm₁, locs, cells, slots⟩ argsL.toArray) :
    (∃ (v : Option Value) (vm₁ : Vm) (B : Pt), s.WarmedH vm₁ ∧ Stand p l e R s m args below meth c B.U B.locs B.cells B.slots ∧ Post ⟨T.setVm vm₁, locs, cells, slots⟩ argsL.toArray v B ∧
      ∀ target, Steps p.tables e below (B.U.setTop { g with pc := g.pc + 3, stack := v.toList ++ rest }) target → Steps p.tables e below (T.setTop g) target) ∨
    (∃ (q : Addr) (vm₁ : Vm) (B : Pt), s.WarmedH vm₁ ∧ Stand p l e R s m args below meth c B.U B.locs B.cells B.slots ∧ PostX ⟨T.setVm vm₁, locs, cells, slots⟩ argsL.toArray q B ∧
      Steps p.tables e below (T.setTop g) ((B.U.setTop { g with stack := rest }).pushFrame (.throwing q))) := by
  obtain ⟨mk, hnamed⟩ := Cond.code_named hcode
  obtain ⟨methM, cM, hmethM, -, -, -, -, -, -, hsigM⟩ := Cond.code_spec hnamed hcode
  have hstatic : methM.isStatic = true := Cond.static_spec hnamed hmethM hstat
  obtain ⟨kP, hkP, -⟩ := className_of_methodNamed hnamed
  have hinitP : kP.init = .initialized := Cond.initialized_spec (findClass_of_methodNamed hnamed) hkP hinit
  obtain ⟨vm₁, X₁, hstep₁⟩ := X.invokestatic hexec hown hlink hnamed hmethM hstatic hkP hinitP hy (g := g) hg (argsL := argsL) (rest := rest) (hlen _ hsigM) hstack hdg
  rcases hK m meth c ⟨T.setVm vm₁, locs, cells, slots⟩ { g with stack := rest } (.invokestatic index) mk argsL.toArray X₁ hg hsize hdg hW (X₁.named hnamed) (hpre vm₁ X₁.warmed) with ⟨v, B, X', hpost, hsteps⟩ | ⟨q, B, X', hpost, hsteps⟩
  · exact Or.inl ⟨v, vm₁, B, X₁.warmed, X', hpost, fun target h => hstep₁ _ fun acts => by rw [doInvoke_state]; exact hsteps.trans h⟩
  · exact Or.inr ⟨q, vm₁, B, X₁.warmed, X', hpost, hstep₁ _ fun acts => by rw [doInvoke_state]; exact hsteps⟩
end Calls
theorem vx_cls {s : State} {T : State} {vm₁ : Vm} {E : String} {k : ClassId} (hW : s.WarmedH vm₁) (h : (T.setVm vm₁).vm.findClass E = some k) : s.vm.findClass E = some k := by
  have h1 : vm₁.findClass E = some k := h
  rw [hW.alike.findClass] at h1
  exact h1
/-- the method's frame g, with q thrown over it -/
def vx_W (p : Program) (l : Launch) (e : Env) (R : Room) (s : State) (m : MethodId) (args : Array Value) (below : List Frame) (meth : Method) (c : Code) (H : Heap) (locs : List Loc) (cells slots : Nat) (Q : State → Prop) (g : JFrame) (q : Addr) : Prop :=
  ∀ T : State, T.heap = H → Stand p l e R s m args below meth c T locs cells slots → ∃ t, Steps p.tables e below ((T.setTop g).pushFrame (.throwing q)) t ∧ Q t
def vx_Run (p : Program) (l : Launch) (e : Env) (R : Room) (s : State) (m : MethodId) (args : Array Value) (below : List Frame) (meth : Method) (c : Code) (H : Heap) (locs : List Loc) (cells slots mc ms : Nat) (g : JFrame) (rest : List Value) (Qa : State → Outcome → State → Prop) (XC : String → State → State → Prop) (free : Addr → Prop) : Prop :=
  ∀ T : State, T.heap = H → Stand p l e R s m args below meth c T locs cells slots →
    (∃ (v : Option Value) (st₀ t T' : State) (L : List Loc), st₀.heap = H ∧ Stand p l e R s m args below meth c T' (locs ++ L) (cells + mc) (slots + ms) ∧ (∀ q ∈ L, free q.base) ∧ T'.heap = t.heap ∧ T'.vm = t.vm ∧ Qa st₀ (.returned v) t ∧
      Goes p e below T g T' { g with pc := g.pc + 3, stack := v.toList ++ rest }) ∨
    (∃ (q : Addr) (st₀ t T' : State) (L : List Loc) (E : String) (ce : Cell), st₀.heap = H ∧ Stand p l e R s m args below meth c T' (locs ++ L) (cells + mc) (slots + ms) ∧ (∀ z ∈ L, free z.base) ∧ T'.heap = t.heap ∧ T'.vm = t.vm ∧ XC E st₀ t ∧ t.heap[q]? = some ce ∧ ce.vm = .none ∧ s.vm.findClass E = some ce.cls ∧
      Steps p.tables e below (T.setTop g) ((T'.setTop { g with stack := rest }).pushFrame (.throwing q)))
def vx_X {S : Type} (px : S → Prop) (B : String → S → State → Prop) (A : Nat → Prop) : String → State → State → Prop := fun E st t => ∃ u : S, px u ∧ B E u t ∧ va_F A st t
section Runs
variable {p : Program} {l : Launch} {e : Env} {R : Room} {s : State} {m : MethodId} {args : Array Value} {below : List Frame} {meth : Method} {c : Code} {H : Heap} {locs : List Loc} {cells slots : Nat}
variable {y : MethodName} {bytes cc : ByteArray} {maxL nL mc ms n index : Nat} {ret : Option FieldType} {ws : List Cond} {rm : Room} {Pc : Array Value → State → Prop} {Qc : Array Value → State → Outcome → State → Prop} {XC : String → State → State → Prop} {free : Addr → Prop} {Ts : List Cond} {own C : String} {b : Addr} {As rest : List Value} {g : JFrame}
theorem vx_callBack (cb : CallB R s args own index y bytes maxL ret ws rm mc ms n) (hM : vx_Met l y ws rm Pc Qc XC mc ms free) (hbl : FrameBlind Pc) : vx_Back l R p e below s args y 3 8 (PreOf R mc ms Pc) (PostOf Qc mc ms free) (vx_Post XC mc ms free) := by
  obtain ⟨hrc, hrs, hfr, hlo, hws, hcw, -, hini, -⟩ := cb
  exact vx_back (bytes := bytes) (maxL := maxL) (ret := ret) hM hbl hrc hrs hfr hlo hws hcw (fun a' U hW => word_at hW (Or.inl (by first | rfl | simp [Cond.onTables, Cond.keeps, Cond.steady])) hini)
theorem vx_runV (S : CallFix p m c cc nL s args Ts own) (hM : vx_Met l y ws rm Pc Qc XC mc ms free) (cw : CallW R s args own C index y bytes maxL ret ws rm mc ms n) (hp : PreV s H C b Pc As)
    (hg : g.method = m) (hn : As.length = n) (hsize : g.locals.size = nL) (hstack : g.stack = As.reverse ++ .ref b :: rest) (hW : 2 * g.monitorRoom + (rest.map fun v => v.category).sum ≤ 8) (hdg : decode cc g.pc = .ok (.invokevirtual index, 3)) (hf : cells + mc ≤ R.cells ∧ slots + ms ≤ R.slots) :
    vx_Run p l e R s m args below meth c H locs cells slots mc ms g rest (Qc (Value.ref b :: As).toArray) XC free := by
  have hK : vx_Back l R p e below s args y 3 8 (PreOf R mc ms Pc) (PostOf Qc mc ms free) (vx_Post XC mc ms free) := vx_callBack cw.1 hM hp.1
  obtain ⟨⟨-, -, -, -, -, -, hcode, -, hy, hlen, hl⟩, hin, hse⟩ := cw
  obtain ⟨hx, hb, hml, ho, -⟩ := S
  obtain ⟨-, ⟨cellB, hcB, hoB, hclB⟩, hPc⟩ := hp
  intro T hT X
  rcases vx_callV X hx (C := C) (bytes := bytes) (maxL := maxL) (ret := ret) ho hl hin hse hcode hy hK (by rw [hT]; exact hcB) hoB hclB hg (hsize.trans hml.symm) (argsL := As) (rest := rest) (fun sig h => hn.trans (hlen sig h)) hstack hW (by rw [hb]; exact hdg)
    (fun vm₁ hW₁ => ⟨hf.1, hf.2, hPc (T.setVm vm₁) hT hW₁⟩) with ⟨v, vm₁, ⟨U', l2, c2, s2⟩, hW₁, X', ⟨g', mk, t, L, e1, e2, hq, h1, hL, h2, h3⟩, st⟩ | ⟨q, vm₁, ⟨U', l2, c2, s2⟩, hW₁, X', ⟨g', mk, t, L, E, ce, e1, e2, hq, hce, hcv, hcl, h1, hL, h2, h3⟩, st⟩
  · dsimp only [Pt.U, Pt.locs, Pt.cells, Pt.slots] at X' e1 e2 h1 h2 h3 st
    subst h1; subst h2; subst h3
    exact Or.inl ⟨v, (T.setVm vm₁).calling g' mk (Value.ref b :: As).toArray, t, U', L, hT, X', hL, e1, e2, hq, st⟩
  · dsimp only [Pt.U, Pt.locs, Pt.cells, Pt.slots] at X' e1 e2 h1 h2 h3 st hcl
    subst h1; subst h2; subst h3
    exact Or.inr ⟨q, (T.setVm vm₁).calling g' mk (Value.ref b :: As).toArray, t, U', L, E, ce, hT, X', hL, e1, e2, hq, hce, hcv, vx_cls hW₁ hcl, st⟩
theorem vx_runS (S : CallFix p m c cc nL s args Ts own) (hM : vx_Met l y ws rm Pc Qc XC mc ms free) (cw : CallB R s args own index y bytes maxL ret ws rm mc ms n ∧ (Cond.static y).before args s = true) (hp : PreS s H Pc As)
    (hg : g.method = m) (hn : As.length = n) (hsize : g.locals.size = nL) (hstack : g.stack = As.reverse ++ rest) (hW : 2 * g.monitorRoom + (rest.map fun v => v.category).sum ≤ 8) (hdg : decode cc g.pc = .ok (.invokestatic index, 3)) (hf : cells + mc ≤ R.cells ∧ slots + ms ≤ R.slots) :
    vx_Run p l e R s m args below meth c H locs cells slots mc ms g rest (Qc As.toArray) XC free := by
  have hK : vx_Back l R p e below s args y 3 8 (PreOf R mc ms Pc) (PostOf Qc mc ms free) (vx_Post XC mc ms free) := vx_callBack cw.1 hM hp.1
  obtain ⟨⟨-, -, -, -, -, -, hcode, hini, hy, hlen, hl⟩, hstt⟩ := cw
  obtain ⟨hx, hb, hml, ho, -⟩ := S
  intro T hT X
  rcases vx_callS X hx (bytes := bytes) (maxL := maxL) (ret := ret) ho hl hstt hini hcode hy hK hg (hsize.trans hml.symm) (argsL := As) (rest := rest) (fun sig h => hn.trans (hlen sig h)) hstack hW (by rw [hb]; exact hdg)
    (fun vm₁ hW₁ => ⟨hf.1, hf.2, hp.2 (T.setVm vm₁) hT hW₁⟩) with ⟨v, vm₁, ⟨U', l2, c2, s2⟩, hW₁, X', ⟨g', mk, t, L, e1, e2, hq, h1, hL, h2, h3⟩, st⟩ | ⟨q, vm₁, ⟨U', l2, c2, s2⟩, hW₁, X', ⟨g', mk, t, L, E, ce, e1, e2, hq, hce, hcv, hcl, h1, hL, h2, h3⟩, st⟩
  · dsimp only [Pt.U, Pt.locs, Pt.cells, Pt.slots] at X' e1 e2 h1 h2 h3 st
    subst h1; subst h2; subst h3
    exact Or.inl ⟨v, (T.setVm vm₁).calling g' mk As.toArray, t, U', L, hT, X', hL, e1, e2, hq, st⟩
  · dsimp only [Pt.U, Pt.locs, Pt.cells, Pt.slots] at X' e1 e2 h1 h2 h3 st hcl
    subst h1; subst h2; subst h3
    exact Or.inr ⟨q, (T.setVm vm₁).calling g' mk As.toArray, t, U', L, E, ce, hT, X', hL, e1, e2, hq, hce, hcv, vx_cls hW₁ hcl, st⟩
end Runs
section Rows
variable {p : Program} {l : Launch} {e : Env} {R : Room} {s : State} {m : MethodId} {args : Array Value} {below : List Frame} {meth : Method} {c : Code} {H : Heap} {locs : List Loc} {cells slots : Nat} {Q : State → Prop}
variable {mc ms : Nat} {free : Addr → Prop} {A0 A1 : Nat → Prop} {H0 : Heap} {a : Array Value} {pc : Nat} {ls : Array Slot} {st0 rest : List Value}
theorem vx_keep {st₀ t T' : State} {L : List Loc} (h0 : st₀.heap = H) (e1 : T'.heap = t.heap) (hS : va_S A0 H0 H locs) (hA : ∀ q, q < H.size → A1 q → A0 q) (hf : ∀ q, free q → A0 q) (hL : ∀ q ∈ L, free q.base) (hF : va_F A1 st₀ t) :
    H.size ≤ T'.heap.size ∧ (∀ q : Nat, q < H.size → ¬ A1 q → T'.heap[q]? = H[q]?) ∧ va_S A0 H0 T'.heap (locs ++ L) := by
  obtain ⟨hz, hk⟩ := hF
  rw [h0] at hz hk
  exact ⟨by rw [e1]; exact hz, fun q h1 h2 => by rw [e1]; exact hk q h1 h2,
    ⟨Nat.le_trans hS.1 (by rw [e1]; exact hz), fun q h1 h2 => by rw [e1, hk q (Nat.lt_of_lt_of_le h1 hS.1) (fun z => h2 (hA q (Nat.lt_of_lt_of_le h1 hS.1) z))]; exact hS.2.1 q h1 h2, fun q hq => by
      rcases List.mem_append.mp hq with h | h
      · exact hS.2.2 q h
      · exact hf _ (hL q h)⟩⟩
theorem vx_calli {S SX : Type} {post : Int32 → S → Prop} {px : SX → Prop} {B : S → State → Prop} {BX : String → SX → State → Prop} {AX : Nat → Prop} (hr : vx_Run p l e R s m args below meth c H locs cells slots mc ms (F0 m pc ls st0) rest (va_Qi post B A1 a) (vx_X px BX AX) free) (hS : va_S A0 H0 H locs) (hA : ∀ q, q < H.size → A1 q → A0 q) (hf : ∀ q, free q → A0 q) (hAX : ∀ q, q < H.size → AX q → A0 q)
    (kx : ∀ (E : String) (ce : Cell) (q9 : Addr) (u : SX) (t : State) (H1 : Heap) (locs1 : List Loc), t.heap = H1 → s.vm.Alike t.vm → px u → BX E u t → H.size ≤ H1.size → (∀ q : Nat, q < H.size → ¬ AX q → H1[q]? = H[q]?) → va_S A0 H0 H1 locs1 → H1[q9]? = some ce → ce.vm = .none → s.vm.findClass E = some ce.cls → vx_W p l e R s m args below meth c H1 locs1 (cells + mc) (slots + ms) Q (F0 m pc ls rest) q9)
    (kk : ∀ (r : Int32) (u : S) (t : State) (H1 : Heap) (locs1 : List Loc), t.heap = H1 → s.vm.Alike t.vm → post r u → B u t → H.size ≤ H1.size → (∀ q : Nat, q < H.size → ¬ A1 q → H1[q]? = H[q]?) → va_S A0 H0 H1 locs1 → W p l e R s m args below meth c H1 locs1 (cells + mc) (slots + ms) Q (F0 m (pc + 3) ls (.int r :: rest))) : W p l e R s m args below meth c H locs cells slots Q (F0 m pc ls st0) := by
  intro T hT X
  rcases hr T hT X with ⟨v, st₀, t, T', L, h0, X', hL, e1, e2, ⟨⟨r, u, hv, hp, hb⟩, hF⟩, st⟩ | ⟨q, st₀, t, T', L, E, ce, h0, X', hL, e1, e2, ⟨u, hp, hb, hF⟩, hce, hcv, hcl, st⟩
  · cases hv
    obtain ⟨k1, k2, k3⟩ := vx_keep h0 e1 hS hA hf hL hF
    obtain ⟨t2, a1, b1⟩ := kk r u t T'.heap (locs ++ L) e1.symm (by rw [← e2]; exact X'.warmed.alike) hp hb k1 k2 k3 T' rfl X'
    exact ⟨t2, st t2 a1, b1⟩
  · obtain ⟨k1, k2, k3⟩ := vx_keep h0 e1 hS hAX hf hL hF
    obtain ⟨t2, a1, b1⟩ := kx E ce q u t T'.heap (locs ++ L) e1.symm (by rw [← e2]; exact X'.warmed.alike) hp hb k1 k2 k3 (by rw [e1]; exact hce) hcv hcl T' rfl X'
    exact ⟨t2, st.trans a1, b1⟩
theorem vx_calll {S SX : Type} {post : Int64 → S → Prop} {px : SX → Prop} {B : S → State → Prop} {BX : String → SX → State → Prop} {AX : Nat → Prop} (hr : vx_Run p l e R s m args below meth c H locs cells slots mc ms (F0 m pc ls st0) rest (va_Ql post B A1 a) (vx_X px BX AX) free) (hS : va_S A0 H0 H locs) (hA : ∀ q, q < H.size → A1 q → A0 q) (hf : ∀ q, free q → A0 q) (hAX : ∀ q, q < H.size → AX q → A0 q)
    (kx : ∀ (E : String) (ce : Cell) (q9 : Addr) (u : SX) (t : State) (H1 : Heap) (locs1 : List Loc), t.heap = H1 → s.vm.Alike t.vm → px u → BX E u t → H.size ≤ H1.size → (∀ q : Nat, q < H.size → ¬ AX q → H1[q]? = H[q]?) → va_S A0 H0 H1 locs1 → H1[q9]? = some ce → ce.vm = .none → s.vm.findClass E = some ce.cls → vx_W p l e R s m args below meth c H1 locs1 (cells + mc) (slots + ms) Q (F0 m pc ls rest) q9)
    (kk : ∀ (r : Int64) (u : S) (t : State) (H1 : Heap) (locs1 : List Loc), t.heap = H1 → s.vm.Alike t.vm → post r u → B u t → H.size ≤ H1.size → (∀ q : Nat, q < H.size → ¬ A1 q → H1[q]? = H[q]?) → va_S A0 H0 H1 locs1 → W p l e R s m args below meth c H1 locs1 (cells + mc) (slots + ms) Q (F0 m (pc + 3) ls (.long r :: rest))) : W p l e R s m args below meth c H locs cells slots Q (F0 m pc ls st0) := by
  intro T hT X
  rcases hr T hT X with ⟨v, st₀, t, T', L, h0, X', hL, e1, e2, ⟨⟨r, u, hv, hp, hb⟩, hF⟩, st⟩ | ⟨q, st₀, t, T', L, E, ce, h0, X', hL, e1, e2, ⟨u, hp, hb, hF⟩, hce, hcv, hcl, st⟩
  · cases hv
    obtain ⟨k1, k2, k3⟩ := vx_keep h0 e1 hS hA hf hL hF
    obtain ⟨t2, a1, b1⟩ := kk r u t T'.heap (locs ++ L) e1.symm (by rw [← e2]; exact X'.warmed.alike) hp hb k1 k2 k3 T' rfl X'
    exact ⟨t2, st t2 a1, b1⟩
  · obtain ⟨k1, k2, k3⟩ := vx_keep h0 e1 hS hAX hf hL hF
    obtain ⟨t2, a1, b1⟩ := kx E ce q u t T'.heap (locs ++ L) e1.symm (by rw [← e2]; exact X'.warmed.alike) hp hb k1 k2 k3 (by rw [e1]; exact hce) hcv hcl T' rfl X'
    exact ⟨t2, st.trans a1, b1⟩
theorem vx_callf {S SX : Type} {post : UInt32 → S → Prop} {px : SX → Prop} {B : S → State → Prop} {BX : String → SX → State → Prop} {AX : Nat → Prop} (hr : vx_Run p l e R s m args below meth c H locs cells slots mc ms (F0 m pc ls st0) rest (va_Qf post B A1 a) (vx_X px BX AX) free) (hS : va_S A0 H0 H locs) (hA : ∀ q, q < H.size → A1 q → A0 q) (hf : ∀ q, free q → A0 q) (hAX : ∀ q, q < H.size → AX q → A0 q)
    (kx : ∀ (E : String) (ce : Cell) (q9 : Addr) (u : SX) (t : State) (H1 : Heap) (locs1 : List Loc), t.heap = H1 → s.vm.Alike t.vm → px u → BX E u t → H.size ≤ H1.size → (∀ q : Nat, q < H.size → ¬ AX q → H1[q]? = H[q]?) → va_S A0 H0 H1 locs1 → H1[q9]? = some ce → ce.vm = .none → s.vm.findClass E = some ce.cls → vx_W p l e R s m args below meth c H1 locs1 (cells + mc) (slots + ms) Q (F0 m pc ls rest) q9)
    (kk : ∀ (r : UInt32) (u : S) (t : State) (H1 : Heap) (locs1 : List Loc), t.heap = H1 → s.vm.Alike t.vm → post r u → B u t → H.size ≤ H1.size → (∀ q : Nat, q < H.size → ¬ A1 q → H1[q]? = H[q]?) → va_S A0 H0 H1 locs1 → W p l e R s m args below meth c H1 locs1 (cells + mc) (slots + ms) Q (F0 m (pc + 3) ls (.float r :: rest))) : W p l e R s m args below meth c H locs cells slots Q (F0 m pc ls st0) := by
  intro T hT X
  rcases hr T hT X with ⟨v, st₀, t, T', L, h0, X', hL, e1, e2, ⟨⟨r, u, hv, hp, hb⟩, hF⟩, st⟩ | ⟨q, st₀, t, T', L, E, ce, h0, X', hL, e1, e2, ⟨u, hp, hb, hF⟩, hce, hcv, hcl, st⟩
  · cases hv
    obtain ⟨k1, k2, k3⟩ := vx_keep h0 e1 hS hA hf hL hF
    obtain ⟨t2, a1, b1⟩ := kk r u t T'.heap (locs ++ L) e1.symm (by rw [← e2]; exact X'.warmed.alike) hp hb k1 k2 k3 T' rfl X'
    exact ⟨t2, st t2 a1, b1⟩
  · obtain ⟨k1, k2, k3⟩ := vx_keep h0 e1 hS hAX hf hL hF
    obtain ⟨t2, a1, b1⟩ := kx E ce q u t T'.heap (locs ++ L) e1.symm (by rw [← e2]; exact X'.warmed.alike) hp hb k1 k2 k3 (by rw [e1]; exact hce) hcv hcl T' rfl X'
    exact ⟨t2, st.trans a1, b1⟩
theorem vx_calld {S SX : Type} {post : UInt64 → S → Prop} {px : SX → Prop} {B : S → State → Prop} {BX : String → SX → State → Prop} {AX : Nat → Prop} (hr : vx_Run p l e R s m args below meth c H locs cells slots mc ms (F0 m pc ls st0) rest (va_Qd post B A1 a) (vx_X px BX AX) free) (hS : va_S A0 H0 H locs) (hA : ∀ q, q < H.size → A1 q → A0 q) (hf : ∀ q, free q → A0 q) (hAX : ∀ q, q < H.size → AX q → A0 q)
    (kx : ∀ (E : String) (ce : Cell) (q9 : Addr) (u : SX) (t : State) (H1 : Heap) (locs1 : List Loc), t.heap = H1 → s.vm.Alike t.vm → px u → BX E u t → H.size ≤ H1.size → (∀ q : Nat, q < H.size → ¬ AX q → H1[q]? = H[q]?) → va_S A0 H0 H1 locs1 → H1[q9]? = some ce → ce.vm = .none → s.vm.findClass E = some ce.cls → vx_W p l e R s m args below meth c H1 locs1 (cells + mc) (slots + ms) Q (F0 m pc ls rest) q9)
    (kk : ∀ (r : UInt64) (u : S) (t : State) (H1 : Heap) (locs1 : List Loc), t.heap = H1 → s.vm.Alike t.vm → post r u → B u t → H.size ≤ H1.size → (∀ q : Nat, q < H.size → ¬ A1 q → H1[q]? = H[q]?) → va_S A0 H0 H1 locs1 → W p l e R s m args below meth c H1 locs1 (cells + mc) (slots + ms) Q (F0 m (pc + 3) ls (.double r :: rest))) : W p l e R s m args below meth c H locs cells slots Q (F0 m pc ls st0) := by
  intro T hT X
  rcases hr T hT X with ⟨v, st₀, t, T', L, h0, X', hL, e1, e2, ⟨⟨r, u, hv, hp, hb⟩, hF⟩, st⟩ | ⟨q, st₀, t, T', L, E, ce, h0, X', hL, e1, e2, ⟨u, hp, hb, hF⟩, hce, hcv, hcl, st⟩
  · cases hv
    obtain ⟨k1, k2, k3⟩ := vx_keep h0 e1 hS hA hf hL hF
    obtain ⟨t2, a1, b1⟩ := kk r u t T'.heap (locs ++ L) e1.symm (by rw [← e2]; exact X'.warmed.alike) hp hb k1 k2 k3 T' rfl X'
    exact ⟨t2, st t2 a1, b1⟩
  · obtain ⟨k1, k2, k3⟩ := vx_keep h0 e1 hS hAX hf hL hF
    obtain ⟨t2, a1, b1⟩ := kx E ce q u t T'.heap (locs ++ L) e1.symm (by rw [← e2]; exact X'.warmed.alike) hp hb k1 k2 k3 (by rw [e1]; exact hce) hcv hcl T' rfl X'
    exact ⟨t2, st.trans a1, b1⟩
theorem vx_callv {S SX : Type} {post : S → Prop} {px : SX → Prop} {B : S → State → Prop} {BX : String → SX → State → Prop} {AX : Nat → Prop} (hr : vx_Run p l e R s m args below meth c H locs cells slots mc ms (F0 m pc ls st0) rest (va_Qv post B A1 a) (vx_X px BX AX) free) (hS : va_S A0 H0 H locs) (hA : ∀ q, q < H.size → A1 q → A0 q) (hf : ∀ q, free q → A0 q) (hAX : ∀ q, q < H.size → AX q → A0 q)
    (kx : ∀ (E : String) (ce : Cell) (q9 : Addr) (u : SX) (t : State) (H1 : Heap) (locs1 : List Loc), t.heap = H1 → s.vm.Alike t.vm → px u → BX E u t → H.size ≤ H1.size → (∀ q : Nat, q < H.size → ¬ AX q → H1[q]? = H[q]?) → va_S A0 H0 H1 locs1 → H1[q9]? = some ce → ce.vm = .none → s.vm.findClass E = some ce.cls → vx_W p l e R s m args below meth c H1 locs1 (cells + mc) (slots + ms) Q (F0 m pc ls rest) q9)
    (kk : ∀ (u : S) (t : State) (H1 : Heap) (locs1 : List Loc), t.heap = H1 → s.vm.Alike t.vm → post u → B u t → H.size ≤ H1.size → (∀ q : Nat, q < H.size → ¬ A1 q → H1[q]? = H[q]?) → va_S A0 H0 H1 locs1 → W p l e R s m args below meth c H1 locs1 (cells + mc) (slots + ms) Q (F0 m (pc + 3) ls (rest))) : W p l e R s m args below meth c H locs cells slots Q (F0 m pc ls st0) := by
  intro T hT X
  rcases hr T hT X with ⟨v, st₀, t, T', L, h0, X', hL, e1, e2, ⟨⟨u, hv, hp, hb⟩, hF⟩, st⟩ | ⟨q, st₀, t, T', L, E, ce, h0, X', hL, e1, e2, ⟨u, hp, hb, hF⟩, hce, hcv, hcl, st⟩
  · cases hv
    obtain ⟨k1, k2, k3⟩ := vx_keep h0 e1 hS hA hf hL hF
    obtain ⟨t2, a1, b1⟩ := kk u t T'.heap (locs ++ L) e1.symm (by rw [← e2]; exact X'.warmed.alike) hp hb k1 k2 k3 T' rfl X'
    exact ⟨t2, st t2 a1, b1⟩
  · obtain ⟨k1, k2, k3⟩ := vx_keep h0 e1 hS hAX hf hL hF
    obtain ⟨t2, a1, b1⟩ := kx E ce q u t T'.heap (locs ++ L) e1.symm (by rw [← e2]; exact X'.warmed.alike) hp hb k1 k2 k3 (by rw [e1]; exact hce) hcv hcl T' rfl X'
    exact ⟨t2, st.trans a1, b1⟩
/-- caught by the row x of this method's table; the rows ahead don't take it -/
theorem vx_catch {own name : String} {E : String} {ce : Cell} {q : Addr} (hown : s.vm.findClass own = some m.cls) (pre : List ExceptionTableEntry) (x : ExceptionTableEntry) (suf : List ExceptionTableEntry) (hsplit : c.exceptionTable.toList = pre ++ x :: suf)
    (hpass : ∀ z ∈ pre, covers z pc = false ∨ (z.catchType ≠ 0 ∧ ∃ nm : String, (Cond.classLink own z.catchType nm).before args s = true ∧ va_Nc E nm s)) (hx : covers x pc = true) (h0 : x.catchType ≠ 0)
    (hlink : (Cond.classLink own x.catchType name).before args s = true) (hcast : (Cond.castable E name).before args s = true) (hcell : H[q]? = some ce) (hv : ce.vm = .none) (hcl : s.vm.findClass E = some ce.cls)
    (kk : W p l e R s m args below meth c H locs cells slots Q (F0 m x.handlerPc ls [.ref q])) : vx_W p l e R s m args below meth c H locs cells slots Q (F0 m pc ls rest) q := by
  intro T hT X
  have hpl : e.platform.magicAccessors = ({} : Platform).magicAccessors := by rw [X.admits.platform]
  obtain ⟨c3, c4, hc3, hc4, hasg⟩ := Cond.castable_spec hcast
  cases Option.some.inj (hc3.symm.trans hcl)
  obtain ⟨c5, hc5, hcl5⟩ := Cond.classLink_spec hown hlink e.platform hpl
  cases Option.some.inj (hc4.symm.trans hc5)
  obtain ⟨vm', X', st⟩ := X.thenCaughtThrough q (g := F0 m pc ls rest) rfl (Steps.refl _) (by rw [hT]; exact hcell) (by rw [hv]; rfl) (by obtain ⟨k9, h9, -⟩ := Vm.findClass_spec hcl; exact ⟨k9, h9⟩) pre x suf hsplit
    (fun z hz => by
      rcases hpass z hz with h | ⟨hz0, nm, hl1, hn1⟩
      · exact Or.inl h
      · obtain ⟨c6, hc6, hcl6⟩ := Cond.classLink_spec hown hl1 e.platform hpl
        obtain ⟨a8, b8, h1, h2, h3⟩ := hn1
        cases Option.some.inj (h1.symm.trans hcl)
        cases Option.some.inj (h2.symm.trans hc6)
        exact Or.inr ⟨hz0, _, hcl6, h3⟩) hx (Or.inr ⟨h0, c4, hcl5, hasg⟩)
  obtain ⟨t, a1, b1⟩ := kk (T.setVm vm') hT X'
  exact ⟨t, st.trans a1, b1⟩
end Rows
section Ends
variable {p : Program} {l : Launch} {e : Env} {R : Room} {s : State} {m : MethodId} {args : Array Value} {below : List Frame} {meth : Method} {c : Code} {H : Heap} {locs : List Loc} {cells slots : Nat} {Q : State → Prop}
variable {mc ms : Nat} {free : Addr → Prop} {A0 A1 : Nat → Prop} {H0 : Heap} {a : Array Value} {ls : Array Slot} {st0 rest : List Value}
variable {Qc : Array Value → State → Outcome → State → Prop} {XC : String → State → State → Prop}
/-- what a body that may throw owes at its end -/
def vx_MQ (below : List Frame) (Qc : Array Value → State → Outcome → State → Prop) (XC : String → State → State → Prop) (a : Array Value) (s : State) (mc ms : Nat) (free : Addr → Prop) : State → Prop := fun t =>
  ∃ o, t.status = .running ∧ Ended t below o ∧ vx_Q Qc XC mc ms free a s o t
theorem vx_ret {g : JFrame} {mc ms : Nat} (k : W p l e R s m args below meth c H locs cells slots (MQ below Qc args s mc ms free) g) : W p l e R s m args below meth c H locs cells slots (vx_MQ below Qc XC args s mc ms free) g := by
  intro T hT X
  obtain ⟨t, a1, o, b1, b2, b3, b4⟩ := k T hT X
  exact ⟨t, a1, o, b1, b2, Or.inl ⟨b3, b4⟩⟩
/-- not caught here: it goes on to the caller -/
theorem vx_widen {g : JFrame} {q : Addr} {k n : Nat} (h1 : cells ≤ k) (h2 : slots ≤ n) (kk : vx_W p l e R s m args below meth c H locs k n Q g q) : vx_W p l e R s m args below meth c H locs cells slots Q g q := fun T hT X => kk T hT (stand_widen X h1 h2)
theorem vx_out {pc : Nat} {E : String} {ce : Cell} {q : Addr} {mc ms : Nat} (hout : ∀ x ∈ c.exceptionTable.toList, covers x pc = false) (hlocks : meth.locks = false) (hcell : H[q]? = some ce) (hv : ce.vm = .none) (hcl : s.vm.findClass E = some ce.cls)
    (hx : ∀ t : State, t.heap = H → s.vm.Alike t.vm → XC E s t) (hf : ∀ z ∈ locs, free z.base) (hc : cells ≤ mc) (hs : slots ≤ ms) :
    vx_W p l e R s m args below meth c H locs cells slots (vx_MQ below Qc XC args s mc ms free) (F0 m pc ls rest) q := by
  intro T hT X
  obtain ⟨st1, hrun, hend, hW, hsm⟩ := X.leaveThrown q (g := F0 m pc ls rest) rfl rfl rfl hout hlocks
  have hcell9 : (T.setFrames (.throwing q :: below)).heap[q]? = some ce := by
    show T.heap[q]? = some ce
    rw [hT]; exact hcell
  exact ⟨_, st1, .threw q, hrun, hend, Or.inr ⟨q, rfl, E, ce, locs, hx _ hT hW.alike, hcell9, hv, hcl, hW, hsm.mono hc hs, hf⟩⟩
theorem vx_frame {U : State} {k n : Nat} (h : s.sameButNew ({ U with vm := s.vm } : State) locs k n) : s.heap.size ≤ U.heap.size ∧ ∀ q : Nat, q < s.heap.size → (∀ z ∈ locs, z.base ≠ q) → U.heap[q]? = s.heap[q]? := by
  obtain ⟨-, h2, -, -, -, h6⟩ := h
  refine ⟨h2, fun q hq hz => ?_⟩
  obtain ⟨c9, e1, e2, e3, e4⟩ := h6 q _ (Array.getElem?_eq_getElem hq)
  have hs : c9.slots = (s.heap[q]).slots := Array.ext_getElem? fun i => e4 i fun hm => hz _ hm rfl
  have h9 : c9 = s.heap[q] := by
    rw [hs] at e2
    exact e2
  have e5 : U.heap[q]? = some c9 := e1
  rw [e5, h9, Array.getElem?_eq_getElem hq]
/-- the words of a throw but the four that speak of the heap -/
def vx_no (w : Cond) : Bool := decide (w ≠ .isRef (.static Bundle.tN "UNASSIGNED_STACK" Bundle.steD)) && decide (w ≠ .isRef (.static Bundle.tN "SUPPRESSED_SENTINEL" Bundle.listD)) && decide (w ≠ .laysStatic Bundle.tN "UNASSIGNED_STACK" Bundle.steD) && decide (w ≠ .laysStatic Bundle.tN "SUPPRESSED_SENTINEL" Bundle.listD)
def vx_at0 (own : String) (ic : Nat) (X : String) (names : List String) : List Cond := (Bundle.ownAtoms0 own ic X names).filter vx_no
def vx_atS (own : String) (ic : Nat) (X : String) (names : List String) : List Cond := (Bundle.ownAtoms own ic X names).filter vx_no
/-- a word that the tables alone decide, or a good one -/
def vx_ot (w : Cond) : Bool := w.onTables || goodWord w
theorem vx_ot_at {args a' : Array Value} {s U : State} {w : Cond} (hW : s.WarmedH U.vm) (hvm : s.vm = U.vm) (hg : vx_ot w = true) (h : w.before args s = true) : w.before a' U = true := by
  simp only [vx_ot, Bool.or_eq_true] at hg
  rcases hg with hg | hg
  · exact va_tabs hg hvm h
  · exact word_at hW (good_of_word hg) h
/-- a list's words: the good ones out of the method's own list, the others by premises of their own -/
theorem vx_hat {args : Array Value} {s : State} {L B : List Cond} (h1 : ∀ w ∈ L.filter goodWord, w.before args s = true) (h2 : ∀ w ∈ L.filter (fun w => !goodWord w), w ∈ B) (h3 : ∀ w ∈ B, w.before args s = true) : ∀ w ∈ L, w.before args s = true := by
  intro w hw
  by_cases g : goodWord w = true
  · exact h1 w (List.mem_filter.mpr ⟨hw, g⟩)
  · refine h3 w (h2 w (List.mem_filter.mpr ⟨hw, ?_⟩))
    show (!goodWord w) = true
    cases hgw : goodWord w
    · rfl
    · exact absurd hgw g
theorem vx_c {args : Array Value} {s : State} {w : Cond} {B : List Cond} (h : w.before args s = true) (t : ∀ w ∈ B, w.before args s = true) : ∀ w' ∈ w :: B, w'.before args s = true := fun w' h' => (List.mem_cons.mp h').elim (fun e => by rw [e]; exact h) (t w')
theorem vx_n {args : Array Value} {s : State} : ∀ w ∈ ([] : List Cond), w.before args s = true := fun _ h => nomatch h
theorem vx_own {args : Array Value} {s : State} {L : List Cond} (h1 : ∀ w ∈ L.filter vx_no, w.before args s = true)
    (hU : (Cond.isRef (.static Bundle.tN "UNASSIGNED_STACK" Bundle.steD)).before args s = true) (hN : (Cond.isRef (.static Bundle.tN "SUPPRESSED_SENTINEL" Bundle.listD)).before args s = true)
    (lU : (Cond.laysStatic Bundle.tN "UNASSIGNED_STACK" Bundle.steD).before args s = true) (lN : (Cond.laysStatic Bundle.tN "SUPPRESSED_SENTINEL" Bundle.listD).before args s = true) : ∀ w ∈ L, w.before args s = true := by
  intro w hw
  by_cases e1 : w = .isRef (.static Bundle.tN "UNASSIGNED_STACK" Bundle.steD)
  · rw [e1]; exact hU
  · by_cases e2 : w = .isRef (.static Bundle.tN "SUPPRESSED_SENTINEL" Bundle.listD)
    · rw [e2]; exact hN
    · by_cases e3 : w = .laysStatic Bundle.tN "UNASSIGNED_STACK" Bundle.steD
      · rw [e3]; exact lU
      · by_cases e4 : w = .laysStatic Bundle.tN "SUPPRESSED_SENTINEL" Bundle.listD
        · rw [e4]; exact lN
        · exact h1 w (List.mem_filter.mpr ⟨hw, by unfold vx_no; rw [decide_eq_true e1, decide_eq_true e2, decide_eq_true e3, decide_eq_true e4]; rfl⟩)
/-- where a static field lies, its class's statics cell in H -/
def vx_L (C n d : String) (A : Nat → Prop) (U : State) (H : Heap) : Prop := ∃ (c : ClassId) (k : Class) (i : Nat) (f : Field) (a : Nat) (cell : Cell), U.vm.findClass C = some c ∧ U.fieldFound? C n d = some (c, k, i, f) ∧ f.isStatic = true ∧ k.statics = some a ∧ H[a]? = some cell ∧ cell.vm.isStatics = true ∧ cell.cls = c ∧ f.slot < cell.slots.size ∧ k.staticTypes[f.slot]? = some f.type ∧ ¬ A a
theorem vx_L.moved {C n d : String} {A : Nat → Prop} {u U : State} {H : Heap} (hvm : u.vm.Alike U.vm) (h : vx_L C n d A u H) : vx_L C n d A U H := by
  obtain ⟨c, k, i, f, a, cell, h1, h2, h3, h4, h5, h6, h7, h8, h9, h10⟩ := h
  obtain ⟨k', hi', he⟩ := State.fieldFound?_setVm hvm h2
  exact ⟨c, k', i, f, a, cell, by rw [hvm.findClass]; exact h1, hi', h3, by rw [he]; exact h4, h5, h6, h7, h8, by rw [he]; exact h9, h10⟩
theorem vx_L.kept {C n d : String} {A : Nat → Prop} {U : State} {H H1 : Heap} (h : vx_L C n d A U H) (hq : ∀ a : Nat, a < H.size → ¬ A a → H1[a]? = H[a]?) : vx_L C n d A U H1 := by
  obtain ⟨c, k, i, f, a, cell, h1, h2, h3, h4, h5, h6, h7, h8, h9, h10⟩ := h
  exact ⟨c, k, i, f, a, cell, h1, h2, h3, h4, by rw [hq a (Array.getElem?_eq_some_iff.mp h5).1 h10]; exact h5, h6, h7, h8, h9, h10⟩
theorem vx_L.narrow {C n d : String} {A B : Nat → Prop} {U : State} {H : Heap} (h : vx_L C n d A U H) (hAB : ∀ q, B q → A q) : vx_L C n d B U H := by
  obtain ⟨c, k, i, f, a, cell, h1, h2, h3, h4, h5, h6, h7, h8, h9, h10⟩ := h
  exact ⟨c, k, i, f, a, cell, h1, h2, h3, h4, h5, h6, h7, h8, h9, fun z => h10 (hAB _ z)⟩
theorem vx_L.word {C n d : String} {A : Nat → Prop} {s : State} {args : Array Value} (h : vx_L C n d A s s.heap) : (Cond.laysStatic C n d).before args s = true := by
  obtain ⟨c, k, i, f, a, cell, h1, h2, h3, h4, h5, h6, h7, h8, h9, -⟩ := h
  show (Cond.laysStatic C n d).holds args s none s [] = true
  exact Cond.laysStatic_of h1 h2 h3 h4 h5 h6 h7 h8 h9
/-- .. and what it holds: null or some reference -/
def vx_Zq (C n d : String) (A : Nat → Prop) (U : State) (H : Heap) : Prop := va_Zq C n d A U H ∧ vx_L C n d A U H
theorem vx_Zq.moved {C n d : String} {A : Nat → Prop} {u U : State} {H : Heap} (hvm : u.vm.Alike U.vm) (h : vx_Zq C n d A u H) : vx_Zq C n d A U H := ⟨va_Zq.moved hvm h.1, vx_L.moved hvm h.2⟩
theorem vx_Zq.kept {C n d : String} {A : Nat → Prop} {U : State} {H H1 : Heap} (h : vx_Zq C n d A U H) (hq : ∀ a : Nat, a < H.size → ¬ A a → H1[a]? = H[a]?) : vx_Zq C n d A U H1 := ⟨va_Zq.kept h.1 hq, vx_L.kept h.2 hq⟩
theorem vx_Zq.narrow {C n d : String} {A B : Nat → Prop} {U : State} {H : Heap} (h : vx_Zq C n d A U H) (hAB : ∀ q, B q → A q) : vx_Zq C n d B U H := ⟨va_Zq.narrow h.1 hAB, vx_L.narrow h.2 hAB⟩
theorem vx_Zqof {args : Array Value} {s : State} {C n d : String} {A : Nat → Prop} (hl : (Cond.laysStatic C n d).before args s = true) (hini : (Cond.initialized C).before args s = true) (h : (Cond.isRef (.static C n d)).before args s = true) (hA : ∀ a : Nat, a < s.heap.size → ¬ A a) : vx_Zq C n d A s s.heap := by
  refine ⟨va_Zqof hl hini h hA, ?_⟩
  obtain ⟨c, k, i, f, a, cell, h1, h2, h3, h4, h5, h6, h7, h8, h9⟩ := Cond.laysStatic_spec hl
  exact ⟨c, k, i, f, a, cell, h1, h2, h3, h4, h5, h6, h7, h8, h9, hA a (Array.getElem?_eq_some_iff.mp h5).1⟩
theorem vx_isRef {C n d : String} {v : Value} {A : Nat → Prop} {s : State} {args : Array Value} (h : va_Z C n d v A s s.heap) (hv : v.isRef = true) : (Cond.isRef (.static C n d)).before args s = true := by
  obtain ⟨cf, kf, fi, f, a, cell, h1, h2, h3, h4, h5, h6, h7, -⟩ := h
  have he : (Term.static C n d).eval args s none [] s = some v := by
    simp [Term.eval, State.fieldNamed?, h1, h2, h4, h5, h6, h7]
  simp only [Cond.before, Cond.holds, Cond.value, he]
  cases v <;> simp_all [Value.isRef]
theorem vx_isRefq {C n d : String} {A : Nat → Prop} {s : State} {args : Array Value} (h : va_Zq C n d A s s.heap) : (Cond.isRef (.static C n d)).before args s = true := by
  rcases h with h | ⟨t, h⟩
  · exact vx_isRef h rfl
  · exact vx_isRef h rfl
/-- the same frame, seen from here: as if the method were called anew in this heap -/
theorem vx_rebase {T : State} (X : Stand p l e R s m args below meth c T locs cells slots) {R' : Room} (hf : R'.frames ≤ R.frames) (hl : R'.locals ≤ R.locals) (hc : cells + R'.cells ≤ R.cells) (hs : slots + R'.slots ≤ R.slots) :
    Stand p l e R' ((T.setVm s.vm).setFrames (.invoking m args :: below)) m args below meth c T [] 0 0 := by
  have htop : (T.setVm s.vm).topJava?.isSome := X.here.top
  have hF : ((T.setVm s.vm).setFrames (.invoking m args :: below)).frames = .invoking m args :: below := State.frames_setFrames _ (State.cur_lt_of_top htop)
  obtain ⟨g₀, hg0⟩ := Option.isSome_iff_exists.mp htop
  obtain ⟨r, hr⟩ := State.topJava?_eq_some.mp hg0
  have hl9 : e.platform.stackLimits (T.setVm s.vm).me = e.platform.stackLimits s.me := X.limits
  have hb9 : (T.setVm s.vm).me.stackBytes = s.me.stackBytes := X.bytes
  refine ⟨X.admits, X.cas, X.clock, hF, ?_, X.hears, X.method, X.code, X.here, X.tail, X.warmed, ?_, ?_, ?_⟩
  · have h := X.room
    have hU : ((T.setVm s.vm).setFrames (.invoking m args :: below)).localsInUse = s.localsInUse := by
      rw [State.localsInUse_invoking hF (meth := meth) (c := c) X.method X.code, State.localsInUse_invoking X.frames X.method X.code]
    simp only [State.hasRoom, Bool.and_eq_true, decide_eq_true_eq] at h ⊢
    obtain ⟨⟨⟨⟨h1, h2, h3, h4, h5, h6⟩, h7⟩, h8⟩, h9⟩ := h
    rw [X.frames, List.length_cons] at h2 h3
    have q1 := X.heapSize
    have q2 := X.used
    simp only [hF, hU, List.length_cons, State.stackLimits_setFrames, State.stackBytes_setFrames, hl9, hb9]
    refine ⟨⟨⟨⟨by omega, by omega, by omega, by omega, by omega, h6⟩, ?_⟩, ?_⟩, X.book⟩
    · show T.heap.size + R'.cells ≤ e.platform.maxCells
      omega
    · show T.slotsUsed + R'.slots ≤ e.platform.maxSlots
      omega
  · rw [State.stackLimits_setFrames]; rfl
  · rw [State.stackBytes_setFrames]; rfl
  · refine ⟨?_, Nat.le_refl _, Nat.le_refl _, ?_, ?_, fun a c9 h9 => ⟨c9, h9, rfl, rfl, fun _ _ => rfl⟩⟩
    · obtain ⟨t, ht, -⟩ := State.frames_cons hr
      show T.setVm s.vm = { ((T.setVm s.vm).setFrames (.invoking m args :: below)).setFrames (T.setVm s.vm).frames with heap := T.heap, slotsUsed := T.slotsUsed }
      rw [State.setFrames_setFrames, State.setFrames_self ht]
      rfl
    · show T.slotsUsed = T.slotsUsed + ((T.heap.toList.drop T.heap.size).map (·.slots.size)).sum
      rw [List.drop_eq_nil_of_le (Nat.le_of_eq Array.length_toList)]
      rfl
    · show ((T.heap.toList.drop T.heap.size).map (·.slots.size)).sum ≤ 0
      rw [List.drop_eq_nil_of_le (Nat.le_of_eq Array.length_toList)]
      exact Nat.le_refl _
/-- 'throw new E()': new; dup; invokespecial; athrow -/
theorem vx_throw0 {cc : ByteArray} {pc : Nat} (hexec : p.tables.exec = Jvm.exec) (hb : c.code = cc) (hl : l.stackTraces = false) {own cls : String} {names : List String} {ik ic mc ms : Nat} {A : Nat → Prop}
    (hown : s.vm.findClass own = some m.cls) (hcls : Bundle.fit cls = true) (hnames : ∀ n ∈ names, Bundle.fit n = true)
    (hk : (Cond.classLink own ik cls).before args s = true) (hini : (Cond.initialized cls).before args s = true) (hat : ∀ w ∈ vx_at0 own ic cls names, w.before args s = true)
    (hgood : ∀ w ∈ Cond.classLink own ik cls :: Cond.initialized cls :: vx_at0 own ic cls names, vx_ot w = true)
    (hU : vx_Zq Bundle.tN "UNASSIGNED_STACK" Bundle.steD A s s.heap) (hN : vx_Zq Bundle.tN "SUPPRESSED_SENTINEL" Bundle.listD A s s.heap) (hS : va_S A s.heap H locs) (hsize : ls.size = c.maxLocals)
    (d0 : decode cc pc = .ok (.new ik, 3)) (d3 : decode cc (pc + 3) = .ok (.dup, 1)) (d4 : decode cc (pc + 4) = .ok (.invokespecial ic, 3)) (d7 : decode cc (pc + 7) = .ok (.athrow, 1))
    (hout : ∀ x ∈ c.exceptionTable.toList, covers x (pc + 7) = false)
    (hRframes : names.length + 3 < R.frames) (hRlocals : (rest.map fun v => v.category).sum + (13 * (names.length + 1) + 42) ≤ R.locals) (hRcells : cells + 1 ≤ R.cells) (hRslots : slots + 6 ≤ R.slots) (hlocks : meth.locks = false)
    (hx : ∀ t : State, s.vm.Alike t.vm → H.size ≤ t.heap.size → (∀ q : Nat, q < H.size → t.heap[q]? = H[q]?) → XC cls s t)
    (hf : ∀ z ∈ locs, free z.base) (hc : cells + 1 ≤ mc) (hs : slots + 6 ≤ ms) :
    W p l e R s m args below meth c H locs cells slots (vx_MQ below Qc XC args s mc ms free) (F0 m pc ls rest) := by
  intro T hT X
  have htr : e.platform.stackTraces = false := (show e.platform.stackTraces = l.stackTraces by rw [X.admits.platform]).trans hl
  have Y := vx_rebase X (R' := { frames := R.frames, locals := R.locals, cells := 1, slots := 6 }) (Nat.le_refl _) (Nat.le_refl _) hRcells hRslots
  obtain ⟨s', hA⟩ : ∃ z, z = (T.setVm s.vm).setFrames (.invoking m args :: below) := ⟨_, rfl⟩
  rw [← hA] at Y
  have hvm : s'.vm = s.vm := by rw [hA]; rfl
  have hhp : s'.heap = H := by rw [hA]; exact hT
  have hW0 : s.WarmedH s'.vm := by rw [hvm]; exact State.WarmedH.refl s
  have hat' : ∀ w ∈ vx_at0 own ic cls names, w.before args s' = true := fun w hw => vx_ot_at hW0 hvm.symm (hgood w (List.mem_cons_of_mem _ (List.mem_cons_of_mem _ hw))) (hat w hw)
  have hk' : (Cond.classLink own ik cls).before args s' = true := vx_ot_at hW0 hvm.symm (hgood _ List.mem_cons_self) hk
  have hini' : (Cond.initialized cls).before args s' = true := vx_ot_at hW0 hvm.symm (hgood _ (List.mem_cons_of_mem _ List.mem_cons_self)) hini
  have hU' : vx_Zq Bundle.tN "UNASSIGNED_STACK" Bundle.steD A s' s'.heap := by rw [hhp]; exact vx_Zq.moved hW0.alike (hU.kept hS.2.1)
  have hN' : vx_Zq Bundle.tN "SUPPRESSED_SENTINEL" Bundle.listD A s' s'.heap := by rw [hhp]; exact vx_Zq.moved hW0.alike (hN.kept hS.2.1)
  have h : ∀ w ∈ Bundle.ownAtoms0 own ic cls names, w.before args s' = true := vx_own hat' (vx_isRefq hU'.1) (vx_isRefq hN'.1) hU'.2.word hN'.2.word
  have hown' : s'.vm.findClass own = some m.cls := by rw [hvm]; exact hown
  have hins : (Cond.instantiable cls 6).before args s' = true := h _ (by simp [Bundle.ownAtoms0])
  obtain ⟨vm₁, cX, kX, hfX, hkX, -, -, X₁, st1⟩ := Y.newCold hexec (own := own) (C := cls) (index := ik) (n := 6) hown' hk' hins hini'
    (g := F0 m pc ls rest) rfl (by rw [hb]; exact d0) (Nat.le_refl _) (Nat.le_refl _)
  generalize hT1 : (T.setVm vm₁).pushCell { cls := cX, slots := kX.instanceTypes.map defaultValue, vm := .none } = T1 at X₁ st1
  have hcat : (Value.ref T.heap.size).category = 1 := rfl
  have hcellA : T1.heap[T.heap.size]? = some (freshCell cX kX) := by rw [← hT1]; exact State.heap_pushCell_size _ _
  have d3' : decode c.code (pc + 3) = .ok (.dup, 1) := by rw [hb]; exact d3
  obtain ⟨U, hsteps, hrun, hend, hW, hsame, ce, hce, hO⟩ := X₁.ctorThrow0 hexec htr (own := own) (cls := cls) (names := names) (ic := ic) hown' hcls hnames h (fun x hx => nomatch hx) hfX hkX hcellA (by rw [hhp, hT]; exact Nat.le_refl _)
    (g := { method := m, pc := pc + 4, locals := ls, stack := .ref T.heap.size :: .ref T.heap.size :: rest, locked := none }) rfl hsize rfl rfl (rest := rest) rfl
    (by rw [hb]; exact d4) (by rw [hb]; exact d7) hout hRframes (by simp only [List.map_cons, List.sum_cons, hcat]; omega) hlocks
  obtain ⟨f1, f2⟩ := vx_frame hsame
  rw [hhp] at f1 f2
  have hWs : s.WarmedH U.vm := State.WarmedH.trans hW0 hW
  have hcl : s.vm.findClass cls = some ce.cls := by
    have h9 := hO.cls
    rw [hvm] at h9
    exact h9
  have hall : s.sameButNew ({ U with vm := s.vm } : State) locs mc ms := by
    subst hA
    obtain ⟨e1, e2⟩ := hsame
    rw [State.setFrames_setFrames] at e1
    have h2 : (T.setVm s.vm).sameButNew ({ U with vm := s.vm } : State) [] (0 + 1) (0 + 6) := ⟨e1, e2⟩
    have h3 := X.same.trans h2
    rw [List.append_nil] at h3
    exact h3.mono hc hs
  refine ⟨U, ?_, .threw T.heap.size, hrun, hend, Or.inr ⟨T.heap.size, rfl, cls, ce, locs, hx U hWs.alike f1 (fun q hq => f2 q hq (fun z hz => nomatch hz)), hce, hO.vm, hcl, hWs, hall, hf⟩⟩
  refine st1 _ ?_
  show Steps p.tables e below (T1.setTop { method := m, pc := pc + 3, locals := ls, stack := .ref T.heap.size :: rest, locked := none }) _
  jvm_step X₁.here [X₁.here.top, hexec, d3', Value.category]
  exact hsteps
/-- 'throw new E("text")': new; dup; ldc; invokespecial; athrow -/
theorem vx_throwS {cc : ByteArray} {pc : Nat} (hexec : p.tables.exec = Jvm.exec) (hb : c.code = cc) (hl : l.stackTraces = false) {own cls text : String} {names : List String} {ik is ic mc ms sa : Nat} {A : Nat → Prop}
    (hown : s.vm.findClass own = some m.cls) (hcls : Bundle.fit cls = true) (hnames : ∀ n ∈ names, Bundle.fit n = true)
    (hk : (Cond.classLink own ik cls).before args s = true) (hini : (Cond.initialized cls).before args s = true) (hstr : vk_R own is text sa s) (hat : ∀ w ∈ vx_atS own ic cls names, w.before args s = true)
    (hgood : ∀ w ∈ Cond.classLink own ik cls :: Cond.initialized cls :: vx_atS own ic cls names, vx_ot w = true)
    (hU : vx_Zq Bundle.tN "UNASSIGNED_STACK" Bundle.steD A s s.heap) (hN : vx_Zq Bundle.tN "SUPPRESSED_SENTINEL" Bundle.listD A s s.heap) (hS : va_S A s.heap H locs) (hsize : ls.size = c.maxLocals)
    (d0 : decode cc pc = .ok (.new ik, 3)) (d3 : decode cc (pc + 3) = .ok (.dup, 1)) (d4 : decode cc (pc + 4) = .ok (.ldc is, 2)) (d6 : decode cc (pc + 6) = .ok (.invokespecial ic, 3)) (d9 : decode cc (pc + 9) = .ok (.athrow, 1))
    (hout : ∀ x ∈ c.exceptionTable.toList, covers x (pc + 9) = false)
    (hRframes : names.length + 3 < R.frames) (hRlocals : (rest.map fun v => v.category).sum + (13 * (names.length + 1) + 43) ≤ R.locals) (hRcells : cells + 1 ≤ R.cells) (hRslots : slots + 6 ≤ R.slots) (hlocks : meth.locks = false)
    (hx : ∀ t : State, s.vm.Alike t.vm → H.size ≤ t.heap.size → (∀ q : Nat, q < H.size → t.heap[q]? = H[q]?) → XC cls s t)
    (hf : ∀ z ∈ locs, free z.base) (hc : cells + 1 ≤ mc) (hs : slots + 6 ≤ ms) :
    W p l e R s m args below meth c H locs cells slots (vx_MQ below Qc XC args s mc ms free) (F0 m pc ls rest) := by
  intro T hT X
  have htr : e.platform.stackTraces = false := (show e.platform.stackTraces = l.stackTraces by rw [X.admits.platform]).trans hl
  have Y := vx_rebase X (R' := { frames := R.frames, locals := R.locals, cells := 1, slots := 6 }) (Nat.le_refl _) (Nat.le_refl _) hRcells hRslots
  obtain ⟨s', hA⟩ : ∃ z, z = (T.setVm s.vm).setFrames (.invoking m args :: below) := ⟨_, rfl⟩
  rw [← hA] at Y
  have hvm : s'.vm = s.vm := by rw [hA]; rfl
  have hhp : s'.heap = H := by rw [hA]; exact hT
  have hW0 : s.WarmedH s'.vm := by rw [hvm]; exact State.WarmedH.refl s
  have hat' : ∀ w ∈ vx_atS own ic cls names, w.before args s' = true := fun w hw => vx_ot_at hW0 hvm.symm (hgood w (List.mem_cons_of_mem _ (List.mem_cons_of_mem _ hw))) (hat w hw)
  have hk' : (Cond.classLink own ik cls).before args s' = true := vx_ot_at hW0 hvm.symm (hgood _ List.mem_cons_self) hk
  have hini' : (Cond.initialized cls).before args s' = true := vx_ot_at hW0 hvm.symm (hgood _ (List.mem_cons_of_mem _ List.mem_cons_self)) hini
  have hU' : vx_Zq Bundle.tN "UNASSIGNED_STACK" Bundle.steD A s' s'.heap := by rw [hhp]; exact vx_Zq.moved hW0.alike (hU.kept hS.2.1)
  have hN' : vx_Zq Bundle.tN "SUPPRESSED_SENTINEL" Bundle.listD A s' s'.heap := by rw [hhp]; exact vx_Zq.moved hW0.alike (hN.kept hS.2.1)
  have h : ∀ w ∈ Bundle.ownAtoms own ic cls names, w.before args s' = true := vx_own hat' (vx_isRefq hU'.1) (vx_isRefq hN'.1) hU'.2.word hN'.2.word
  have hown' : s'.vm.findClass own = some m.cls := by rw [hvm]; exact hown
  have hins : (Cond.instantiable cls 6).before args s' = true := h _ (by simp [Bundle.ownAtoms])
  obtain ⟨vm₁, cX, kX, hfX, hkX, -, -, X₁, st1⟩ := Y.newCold hexec (own := own) (C := cls) (index := ik) (n := 6) hown' hk' hins hini'
    (g := F0 m pc ls rest) rfl (by rw [hb]; exact d0) (Nat.le_refl _) (Nat.le_refl _)
  generalize hT1 : (T.setVm vm₁).pushCell { cls := cX, slots := kX.instanceTypes.map defaultValue, vm := .none } = T1 at X₁ st1
  have hcat : (Value.ref T.heap.size).category = 1 := rfl
  have hcellA : T1.heap[T.heap.size]? = some (freshCell cX kX) := by rw [← hT1]; exact State.heap_pushCell_size _ _
  have d3' : decode c.code (pc + 3) = .ok (.dup, 1) := by rw [hb]; exact d3
  have d4' : decode c.code (pc + 4) = .ok (.ldc is, 2) := by rw [hb]; exact d4
  have hstr' : vk_R own is text sa s' := vk_R.warm hW0 hstr
  obtain ⟨U, hsteps, hrun, hend, hW, hsame, ce, hce, hO⟩ := X₁.ctorThrowS hexec htr (own := own) (cls := cls) (names := names) (ic := ic) hown' hcls hnames h (fun x hx => nomatch hx) hfX hkX hcellA (by rw [hhp, hT]; exact Nat.le_refl _) (msg := .ref sa) rfl
    (g := { method := m, pc := pc + 6, locals := ls, stack := .ref sa :: .ref T.heap.size :: .ref T.heap.size :: rest, locked := none }) rfl hsize rfl rfl (rest := rest) rfl
    (by rw [hb]; exact d6) (by rw [hb]; exact d9) hout hRframes (by simp only [List.map_cons, List.sum_cons, hcat]; omega) hlocks
  obtain ⟨f1, f2⟩ := vx_frame hsame
  rw [hhp] at f1 f2
  have hWs : s.WarmedH U.vm := State.WarmedH.trans hW0 hW
  have hcl : s.vm.findClass cls = some ce.cls := by
    have h9 := hO.cls
    rw [hvm] at h9
    exact h9
  have hall : s.sameButNew ({ U with vm := s.vm } : State) locs mc ms := by
    subst hA
    obtain ⟨e1, e2⟩ := hsame
    rw [State.setFrames_setFrames] at e1
    have h2 : (T.setVm s.vm).sameButNew ({ U with vm := s.vm } : State) [] (0 + 1) (0 + 6) := ⟨e1, e2⟩
    have h3 := X.same.trans h2
    rw [List.append_nil] at h3
    exact h3.mono hc hs
  refine ⟨U, ?_, .threw T.heap.size, hrun, hend, Or.inr ⟨T.heap.size, rfl, cls, ce, locs, hx U hWs.alike f1 (fun q hq => f2 q hq (fun z hz => nomatch hz)), hce, hO.vm, hcl, hWs, hall, hf⟩⟩
  refine st1 _ ?_
  show Steps p.tables e below (T1.setTop { method := m, pc := pc + 3, locals := ls, stack := .ref T.heap.size :: rest, locked := none }) _
  jvm_step X₁.here [X₁.here.top, hexec, d3', Value.category]
  exact X₁.ldcString hexec (own := own) (text := text) (index := is) (a := sa) hown' hstr'.1 hstr'.2
    (g := { method := m, pc := pc + 4, locals := ls, stack := .ref T.heap.size :: .ref T.heap.size :: rest, locked := none }) rfl d4' _ hsteps
/-- 'throw new E("text")', the text by a wide index -/
theorem vx_throwSW {cc : ByteArray} {pc : Nat} (hexec : p.tables.exec = Jvm.exec) (hb : c.code = cc) (hl : l.stackTraces = false) {own cls text : String} {names : List String} {ik is ic mc ms sa : Nat} {A : Nat → Prop}
    (hown : s.vm.findClass own = some m.cls) (hcls : Bundle.fit cls = true) (hnames : ∀ n ∈ names, Bundle.fit n = true)
    (hk : (Cond.classLink own ik cls).before args s = true) (hini : (Cond.initialized cls).before args s = true) (hstr : vk_R own is text sa s) (hat : ∀ w ∈ vx_atS own ic cls names, w.before args s = true)
    (hgood : ∀ w ∈ Cond.classLink own ik cls :: Cond.initialized cls :: vx_atS own ic cls names, vx_ot w = true)
    (hU : vx_Zq Bundle.tN "UNASSIGNED_STACK" Bundle.steD A s s.heap) (hN : vx_Zq Bundle.tN "SUPPRESSED_SENTINEL" Bundle.listD A s s.heap) (hS : va_S A s.heap H locs) (hsize : ls.size = c.maxLocals)
    (d0 : decode cc pc = .ok (.new ik, 3)) (d3 : decode cc (pc + 3) = .ok (.dup, 1)) (d4 : decode cc (pc + 4) = .ok (.ldc_w is, 3)) (d7 : decode cc (pc + 7) = .ok (.invokespecial ic, 3)) (d10 : decode cc (pc + 10) = .ok (.athrow, 1))
    (hout : ∀ x ∈ c.exceptionTable.toList, covers x (pc + 10) = false)
    (hRframes : names.length + 3 < R.frames) (hRlocals : (rest.map fun v => v.category).sum + (13 * (names.length + 1) + 43) ≤ R.locals) (hRcells : cells + 1 ≤ R.cells) (hRslots : slots + 6 ≤ R.slots) (hlocks : meth.locks = false)
    (hx : ∀ t : State, s.vm.Alike t.vm → H.size ≤ t.heap.size → (∀ q : Nat, q < H.size → t.heap[q]? = H[q]?) → XC cls s t)
    (hf : ∀ z ∈ locs, free z.base) (hc : cells + 1 ≤ mc) (hs : slots + 6 ≤ ms) :
    W p l e R s m args below meth c H locs cells slots (vx_MQ below Qc XC args s mc ms free) (F0 m pc ls rest) := by
  intro T hT X
  have htr : e.platform.stackTraces = false := (show e.platform.stackTraces = l.stackTraces by rw [X.admits.platform]).trans hl
  have Y := vx_rebase X (R' := { frames := R.frames, locals := R.locals, cells := 1, slots := 6 }) (Nat.le_refl _) (Nat.le_refl _) hRcells hRslots
  obtain ⟨s', hA⟩ : ∃ z, z = (T.setVm s.vm).setFrames (.invoking m args :: below) := ⟨_, rfl⟩
  rw [← hA] at Y
  have hvm : s'.vm = s.vm := by rw [hA]; rfl
  have hhp : s'.heap = H := by rw [hA]; exact hT
  have hW0 : s.WarmedH s'.vm := by rw [hvm]; exact State.WarmedH.refl s
  have hat' : ∀ w ∈ vx_atS own ic cls names, w.before args s' = true := fun w hw => vx_ot_at hW0 hvm.symm (hgood w (List.mem_cons_of_mem _ (List.mem_cons_of_mem _ hw))) (hat w hw)
  have hk' : (Cond.classLink own ik cls).before args s' = true := vx_ot_at hW0 hvm.symm (hgood _ List.mem_cons_self) hk
  have hini' : (Cond.initialized cls).before args s' = true := vx_ot_at hW0 hvm.symm (hgood _ (List.mem_cons_of_mem _ List.mem_cons_self)) hini
  have hU' : vx_Zq Bundle.tN "UNASSIGNED_STACK" Bundle.steD A s' s'.heap := by rw [hhp]; exact vx_Zq.moved hW0.alike (hU.kept hS.2.1)
  have hN' : vx_Zq Bundle.tN "SUPPRESSED_SENTINEL" Bundle.listD A s' s'.heap := by rw [hhp]; exact vx_Zq.moved hW0.alike (hN.kept hS.2.1)
  have h : ∀ w ∈ Bundle.ownAtoms own ic cls names, w.before args s' = true := vx_own hat' (vx_isRefq hU'.1) (vx_isRefq hN'.1) hU'.2.word hN'.2.word
  have hown' : s'.vm.findClass own = some m.cls := by rw [hvm]; exact hown
  have hins : (Cond.instantiable cls 6).before args s' = true := h _ (by simp [Bundle.ownAtoms])
  obtain ⟨vm₁, cX, kX, hfX, hkX, -, -, X₁, st1⟩ := Y.newCold hexec (own := own) (C := cls) (index := ik) (n := 6) hown' hk' hins hini'
    (g := F0 m pc ls rest) rfl (by rw [hb]; exact d0) (Nat.le_refl _) (Nat.le_refl _)
  generalize hT1 : (T.setVm vm₁).pushCell { cls := cX, slots := kX.instanceTypes.map defaultValue, vm := .none } = T1 at X₁ st1
  have hcat : (Value.ref T.heap.size).category = 1 := rfl
  have hcellA : T1.heap[T.heap.size]? = some (freshCell cX kX) := by rw [← hT1]; exact State.heap_pushCell_size _ _
  have d3' : decode c.code (pc + 3) = .ok (.dup, 1) := by rw [hb]; exact d3
  have d4' : decode c.code (pc + 4) = .ok (.ldc_w is, 3) := by rw [hb]; exact d4
  have hstr' : vk_R own is text sa s' := vk_R.warm hW0 hstr
  obtain ⟨U, hsteps, hrun, hend, hW, hsame, ce, hce, hO⟩ := X₁.ctorThrowS hexec htr (own := own) (cls := cls) (names := names) (ic := ic) hown' hcls hnames h (fun x hx => nomatch hx) hfX hkX hcellA (by rw [hhp, hT]; exact Nat.le_refl _) (msg := .ref sa) rfl
    (g := { method := m, pc := pc + 7, locals := ls, stack := .ref sa :: .ref T.heap.size :: .ref T.heap.size :: rest, locked := none }) rfl hsize rfl rfl (rest := rest) rfl
    (by rw [hb]; exact d7) (by rw [hb]; exact d10) hout hRframes (by simp only [List.map_cons, List.sum_cons, hcat]; omega) hlocks
  obtain ⟨f1, f2⟩ := vx_frame hsame
  rw [hhp] at f1 f2
  have hWs : s.WarmedH U.vm := State.WarmedH.trans hW0 hW
  have hcl : s.vm.findClass cls = some ce.cls := by
    have h9 := hO.cls
    rw [hvm] at h9
    exact h9
  have hall : s.sameButNew ({ U with vm := s.vm } : State) locs mc ms := by
    subst hA
    obtain ⟨e1, e2⟩ := hsame
    rw [State.setFrames_setFrames] at e1
    have h2 : (T.setVm s.vm).sameButNew ({ U with vm := s.vm } : State) [] (0 + 1) (0 + 6) := ⟨e1, e2⟩
    have h3 := X.same.trans h2
    rw [List.append_nil] at h3
    exact h3.mono hc hs
  refine ⟨U, ?_, .threw T.heap.size, hrun, hend, Or.inr ⟨T.heap.size, rfl, cls, ce, locs, hx U hWs.alike f1 (fun q hq => f2 q hq (fun z hz => nomatch hz)), hce, hO.vm, hcl, hWs, hall, hf⟩⟩
  refine st1 _ ?_
  show Steps p.tables e below (T1.setTop { method := m, pc := pc + 3, locals := ls, stack := .ref T.heap.size :: rest, locked := none }) _
  jvm_step X₁.here [X₁.here.top, hexec, d3', Value.category]
  exact X₁.ldcStringW hexec (own := own) (text := text) (index := is) (a := sa) hown' hstr'.1 hstr'.2
    (g := { method := m, pc := pc + 4, locals := ls, stack := .ref T.heap.size :: .ref T.heap.size :: rest, locked := none }) rfl d4' _ hsteps
end Ends
section Bodies
variable {l : Launch}
theorem vx_ofW {y : MethodName} {ws ws' : List Cond} {rm : Room} {Pc : Array Value → State → Prop} {Qc : Array Value → State → Outcome → State → Prop} {XC : String → State → State → Prop} {mc ms : Nat} {free : Addr → Prop} {cc : ByteArray} {maxL : Nat} {ret : Option FieldType}
    (hy : plainName y.cls = true) (hw : ws = Cond.code y cc maxL ret :: ws')
    (body : ∀ p e s m args below meth c s₁, BodyLoose p l y (headSpec ws rm) cc maxL ret e s m args below meth c s₁ → c.maxLocals = maxL → (∀ x ∈ c.exceptionTable.toList, False) → Pc args s →
      W p l e (headSpec ws rm).room s m args below meth c s.heap [] 0 0 (vx_MQ below Qc XC args s mc ms free) (entryFrame m args maxL)) : vx_Met l y ws rm Pc Qc XC mc ms free := by
  refine MetFree.of_bodyS (code := cc) (maxLocals := maxL) (ret := ret) hy ?_ ?_
  · intro args s m h hn
    obtain ⟨meth, c, h1, h2, h3, h4, h5, h6, -, -⟩ := Cond.code_spec hn (atoms_spec (ws := ws) h _ (by rw [hw]; exact List.mem_cons_self))
    exact ⟨meth, c, h1, h2, h3, h4, h5, h6⟩
  · intro p e s m args below meth c s₁ B hml hP _
    have hh0 : s₁.heap = s.heap := by rw [B.state]; rfl
    have ht : ∀ x ∈ c.exceptionTable.toList, False := by
      obtain ⟨meth9, c9, h1, h2, -, -, -, -, h7, -⟩ := Cond.code_spec B.named (atoms_spec (ws := ws) B.pre _ (by rw [hw]; exact List.mem_cons_self))
      cases Option.some.inj (h1.symm.trans B.method)
      cases Option.some.inj (h2.symm.trans (Stand.of_body B).code)
      intro x hx
      rw [Array.isEmpty_iff.mp h7] at hx
      cases hx
    obtain ⟨t, a1, o, b1, b2, b3⟩ := body p e s m args below meth c s₁ B hml ht hP s₁ hh0 (Stand.of_body B)
    exact ⟨t, o, a1, b1, b2, b3⟩
/-- the table of a body with handlers -/
theorem vx_table {p : Program} {x y : MethodName} {S : Spec} {cc bytes : ByteArray} {maxL maxL' : Nat} {ret ret' : Option FieldType} {e : Env} {s s₁ : State} {m : MethodId} {args : Array Value} {below : List Frame} {meth : Method} {c : Code} {hh : List (Nat × Nat × Nat × Nat)}
    (B : BodyLoose p l y S cc maxL ret e s m args below meth c s₁) (h : (Cond.codeWith y bytes maxL' ret' hh).before args s = true) : c.exceptionTable.toList = tableOf hh := by
  obtain ⟨m9, meth9, c9, hn9, h1, h2, -, -, h6, -⟩ := Cond.codeWith_spec h
  cases Option.some.inj (hn9.symm.trans B.named)
  cases Option.some.inj (h1.symm.trans B.method)
  cases Option.some.inj (h2.symm.trans (Stand.of_body B).code)
  rw [← h6, table_eq]
end Bodies
end VXA
/-! ===== END ===== -/
/-! ===== BEGIN a static call of a method with an exception table ===== -/
section VXS
variable {p : Program} {l : Launch} {e : Env} {R : Room} {s : State} {m : MethodId} {args : Array Value} {below : List Frame} {meth : Method} {c : Code} {T : State} {H : Heap} {locs : List Loc} {cells slots : Nat}
abbrev vx_CSW (R : Room) (s : State) (args : Array Value) (own : String) (index : Nat) (y : MethodName) (bytes : ByteArray) (maxL : Nat) (ret : Option FieldType) (hh : List (Nat × Nat × Nat × Nat)) (ws : List Cond) (rm : Room) (mc ms n : Nat) : Prop :=
  (rm.cells = mc ∧ rm.slots = ms ∧ rm.frames + 1 ≤ R.frames ∧ 8 + (maxL + 11) + rm.locals ≤ R.locals ∧ (∀ w ∈ ws, ∀ (a' : Array Value) (U : State), s.WarmedH U.vm → w.before a' U = true) ∧ Cond.codeWith y bytes maxL ret hh ∈ ws) ∧
  (Cond.codeWith y bytes maxL ret hh).before args s = true ∧ (Cond.initialized y.cls).before args s = true ∧ (y.cls ≠ "java/lang/invoke/MethodHandle" ∧ y.cls ≠ "java/lang/invoke/VarHandle") ∧
  (∀ sig, parseMethodDescriptor y.desc = some sig → n = sig.parameters.length) ∧ (Cond.methodLink own index y).before args s = true ∧ (Cond.static y).before args s = true
theorem vx_cwSW {own : String} {index maxL mc ms : Nat} {y : MethodName} {bytes : ByteArray} {ret : Option FieldType} {hh : List (Nat × Nat × Nat × Nat)} {Ts ws ws' : List Cond} {rm : Room} (n : Nat) (ht : ∀ w ∈ Ts, w.before args s = true) (hT : GoodIn Ts (va_wsS own index y ws)) (hw : ws = Cond.codeWith y bytes maxL ret hh :: ws') (hrc : rm.cells = mc) (hrs : rm.slots = ms)
    (hd : y.cls ≠ "java/lang/invoke/MethodHandle" ∧ y.cls ≠ "java/lang/invoke/VarHandle" ∧ (parseMethodDescriptor y.desc).map (fun d => d.parameters.length) = some n) (hR : rm.frames + 1 ≤ R.frames ∧ 8 + (maxL + 11) + rm.locals ≤ R.locals) :
    vx_CSW R s args own index y bytes maxL ret hh ws rm mc ms n := by
  have ok : ∀ w ∈ va_wsS own index y ws, w.before args s = true := fun w h => ht w (hT w h).1
  have hG : GoodIn Ts ws := fun w h => hT w (by unfold va_wsS; exact List.mem_append_right _ h)
  have hc : Cond.codeWith y bytes maxL ret hh ∈ ws := by rw [hw]; exact List.mem_cons_self
  refine ⟨⟨hrc, hrs, hR.1, hR.2, pay_in ht hG, hc⟩, ht _ (hG _ hc).1, ok _ (by simp [va_wsS]), ⟨hd.1, hd.2.1⟩, fun sig h => ?_, ok _ (by simp [va_wsS]), ok _ (by simp [va_wsS])⟩
  have h2 := hd.2.2
  rw [h] at h2
  exact (Option.some.inj h2).symm
theorem vx_callSW (X : Stand p l e R s m args below meth c T locs cells slots) (hexec : p.tables.exec = Jvm.exec) {own : String} {index : Nat} {y : MethodName} {bytes : ByteArray} {maxL : Nat} {ret : Option FieldType} {hh : List (Nat × Nat × Nat × Nat)}
    (hown : s.vm.findClass own = some m.cls) (hlink : (Cond.methodLink own index y).before args s = true) (hstat : (Cond.static y).before args s = true) (hinit : (Cond.initialized y.cls).before args s = true)
    (hcode : (Cond.codeWith y bytes maxL ret hh).before args s = true) (hy : y.cls ≠ "java/lang/invoke/MethodHandle" ∧ y.cls ≠ "java/lang/invoke/VarHandle")
    {W9 : Nat} {Pre : Pt → Array Value → Prop} {Post : Pt → Array Value → Option Value → Pt → Prop} (hK : Back l R p e below s args y 3 W9 Pre Post)
    {g : JFrame} (hg : g.method = m) (hsize : g.locals.size = c.maxLocals) {argsL rest : List Value} (hlen : ∀ sig, parseMethodDescriptor y.desc = some sig → argsL.length = sig.parameters.length)
    (hstack : g.stack = argsL.reverse ++ rest) (hW : 2 * g.monitorRoom + (rest.map fun v => v.category).sum ≤ W9) (hdg : decode c.code g.pc = .ok (.invokestatic index, 3))
    (hpre : ∀ vm₁, s.WarmedH vm₁ → Pre ⟨T.setVm vm₁, locs, cells, slots⟩ argsL.toArray) :
    ∃ (v : Option Value) (vm₁ : Vm) (B : Pt), s.WarmedH vm₁ ∧ Stand p l e R s m args below meth c B.U B.locs B.cells B.slots ∧ Post ⟨T.setVm vm₁, locs, cells, slots⟩ argsL.toArray v B ∧
      ∀ target, Steps p.tables e below (B.U.setTop { g with pc := g.pc + 3, stack := v.toList ++ rest }) target → Steps p.tables e below (T.setTop g) target := by
  obtain ⟨mk, methM, cM, hnamed, hmethM, -, -, -, -, -, -, hsigM⟩ := Cond.codeWith_spec hcode
  have hstatic : methM.isStatic = true := Cond.static_spec hnamed hmethM hstat
  obtain ⟨kP, hkP, -⟩ := className_of_methodNamed hnamed
  have hinitP : kP.init = .initialized := Cond.initialized_spec (findClass_of_methodNamed hnamed) hkP hinit
  obtain ⟨vm₁, X₁, hstep₁⟩ := X.invokestatic hexec hown hlink hnamed hmethM hstatic hkP hinitP hy (g := g) hg (argsL := argsL) (rest := rest) (hlen _ hsigM) hstack hdg
  obtain ⟨v, B, X', hpost, hsteps⟩ := hK m meth c ⟨T.setVm vm₁, locs, cells, slots⟩ { g with stack := rest } (.invokestatic index) mk argsL.toArray X₁ hg hsize hdg hW (X₁.named hnamed) (hpre vm₁ X₁.warmed)
  exact ⟨v, vm₁, B, X₁.warmed, X', hpost, fun target h => hstep₁ _ fun acts => by rw [doInvoke_state]; exact hsteps.trans h⟩
theorem vx_runSW {y : MethodName} {bytes cc : ByteArray} {maxL nL mc ms n index : Nat} {ret : Option FieldType} {hh : List (Nat × Nat × Nat × Nat)} {ws : List Cond} {rm : Room} {Pc : Array Value → State → Prop} {Qc : Array Value → State → Outcome → State → Prop} {free : Addr → Prop} {Ts : List Cond} {own : String} {As rest : List Value} {g : JFrame}
    (S : CallFix p m c cc nL s args Ts own) (hM : Met l y ws rm Pc Qc mc ms free) (cw : vx_CSW R s args own index y bytes maxL ret hh ws rm mc ms n) (hp : PreS s H Pc As)
    (hg : g.method = m) (hn : As.length = n) (hsize : g.locals.size = nL) (hstack : g.stack = As.reverse ++ rest) (hW : 2 * g.monitorRoom + (rest.map fun v => v.category).sum ≤ 8) (hdg : decode cc g.pc = .ok (.invokestatic index, 3)) (hf : cells + mc ≤ R.cells ∧ slots + ms ≤ R.slots) :
    va_Run p l e R s m args below meth c H locs cells slots mc ms g rest (Qc As.toArray) (free) := by
  obtain ⟨⟨hrc, hrs, hfr, hlo, hws, hcw⟩, hcode, hini, hy, hlen, hl, hstt⟩ := cw
  have hK : Back l R p e below s args y 3 8 (PreOf R mc ms Pc) (PostOf Qc mc ms free) := va_backW (hh := hh) (bytes := bytes) (maxL := maxL) (ret := ret) hM hp.1 hrc hrs hfr hlo hws hcw (fun a' U hW => word_at hW (Or.inl (by first | rfl | simp [Cond.onTables, Cond.keeps, Cond.steady])) hini)
  obtain ⟨hx, hb, hml, ho, -⟩ := S
  intro T hT X
  obtain ⟨v, vm₁, ⟨U', l2, c2, s2⟩, hW₁, X', ⟨g', mk, t, L, e1, e2, hq, h1, hL, h2, h3⟩, st⟩ := vx_callSW X hx (hh := hh) (bytes := bytes) (maxL := maxL) (ret := ret) ho hl hstt hini hcode hy hK hg (hsize.trans hml.symm) (argsL := As) (rest := rest) (fun sig h => hn.trans (hlen sig h)) hstack hW (by rw [hb]; exact hdg)
    (fun vm₁ hW₁ => ⟨hf.1, hf.2, hp.2 (T.setVm vm₁) hT hW₁⟩)
  dsimp only [Pt.U, Pt.locs, Pt.cells, Pt.slots] at X' e1 e2 h1 h2 h3 st
  subst h1; subst h2; subst h3
  exact ⟨v, (T.setVm vm₁).calling g' mk As.toArray, t, U', L, hT, X', hL, e1, e2, hq, st⟩
/-- not caught here, past rows that name other classes: it goes on to the caller -/
theorem vx_outP {p : Program} {l : Launch} {e : Env} {R : Room} {s : State} {m : MethodId} {args : Array Value} {below : List Frame} {meth : Method} {c : Code} {H : Heap} {locs : List Loc} {cells slots : Nat} {free : Addr → Prop} {ls : Array Slot} {rest : List Value} {Qc : Array Value → State → Outcome → State → Prop} {XC : String → State → State → Prop}
    {pc : Nat} {own E : String} {ce : Cell} {q : Addr} {mc ms : Nat} (hown : s.vm.findClass own = some m.cls) (hlocks : meth.locks = false)
    (hpass : ∀ z ∈ c.exceptionTable.toList, covers z pc = false ∨ (z.catchType ≠ 0 ∧ ∃ nm : String, (Cond.classLink own z.catchType nm).before args s = true ∧ va_Nc E nm s)) (hcell : H[q]? = some ce) (hv : ce.vm = .none) (hcl : s.vm.findClass E = some ce.cls)
    (hx : ∀ t : State, t.heap = H → s.vm.Alike t.vm → XC E s t) (hf : ∀ z ∈ locs, free z.base) (hc : cells ≤ mc) (hs : slots ≤ ms) :
    vx_W p l e R s m args below meth c H locs cells slots (vx_MQ below Qc XC args s mc ms free) (F0 m pc ls rest) q := by
  intro T hT X
  have hpl : e.platform.magicAccessors = ({} : Platform).magicAccessors := by rw [X.admits.platform]
  obtain ⟨vm', hW', X', st⟩ := X.outThrough hlocks q (g := F0 m pc ls rest) rfl rfl rfl (cell := ce) (by rw [hT]; exact hcell) (by rw [hv]; rfl)
    (by obtain ⟨k9, h9, -⟩ := Vm.findClass_spec hcl; exact ⟨k9, h9⟩) (fun z hz => by
      rcases hpass z hz with h | ⟨hz0, nm, hl1, hn1⟩
      · exact Or.inl h
      · obtain ⟨c6, hc6, hcl6⟩ := Cond.classLink_spec hown hl1 e.platform hpl
        obtain ⟨a8, b8, h1, h2, h3⟩ := hn1
        cases Option.some.inj (h1.symm.trans hcl)
        cases Option.some.inj (h2.symm.trans hc6)
        exact Or.inr ⟨hz0, _, hcl6, h3⟩)
  obtain ⟨g₀, hfr⟩ := X'.frames_eq
  have hcell9 : ((T.setVm vm').setFrames (.throwing q :: below)).heap[q]? = some ce := by
    show T.heap[q]? = some ce
    rw [hT]; exact hcell
  have hend : Ended ((T.setVm vm').setFrames (.throwing q :: below)) below (.threw q) := State.frames_setFrames _ (State.cur_lt_of_frames hfr)
  refine ⟨(T.setVm vm').setFrames (.throwing q :: below), ?_, .threw q, X'.here.running, hend, Or.inr ⟨q, rfl, E, ce, locs, hx _ hT (X'.ends _).1.alike, hcell9, hv, hcl, (X'.ends _).1, (X'.ends _).2.mono hc hs, hf⟩⟩
  rw [X.pushThrowing_eq]
  exact st
/-- a thing of a world lies in the heap -/
theorem vx_lt {D : va_G} {cl : List vw_C} {ws : va_W} {H1 : Heap} (h : va_P D cl ws H1) {k : Nat} {q : Nat × va_E} (hk : ws[k]? = some q) : q.1 < H1.size := (h k q hk).lt
end VXS
/-! ===== END ===== -/
/-! ===== BEGIN methods with a table of their own: called by a name, returning or throwing ===== -/
section VXH
/-! vx_backW, vx_callVX, vx_callSX, vx_callVW, vx_runVW, vx_runVX, vx_runSX, vx_ofWH follow the same proofs as their sisters above (Free/Laws.lean, Shelf42/LK1.lean); vx_outP calls Shelf42/NT130.lean (outThrough). -/
section
variable {l : Launch} {R : Room} {p : Program} {e : Env} {below : List Frame} {s : State} {sargs : Array Value} {y : MethodName} {len W9 : Nat}
theorem vx_backW {ws : List Cond} {rm : Room} {Pc : Array Value → State → Prop} {Qc : Array Value → State → Outcome → State → Prop} {XC : String → State → State → Prop} {mc ms : Nat} {free : Addr → Prop} {bytes : ByteArray} {maxL : Nat} {ret : Option FieldType} {hh : List (Nat × Nat × Nat × Nat)}
    (hM : vx_Met l y ws rm Pc Qc XC mc ms free) (hblind : FrameBlind Pc) (hrc : rm.cells = mc) (hrs : rm.slots = ms)
    (hframes : rm.frames + 1 ≤ R.frames) (hlocals : W9 + (maxL + 11) + rm.locals ≤ R.locals)
    (hws : ∀ w ∈ ws, ∀ a' U, s.WarmedH U.vm → w.before a' U = true) (hcode : Cond.codeWith y bytes maxL ret hh ∈ ws) (hinit : ∀ a' U, s.WarmedH U.vm → (Cond.initialized y.cls).before a' U = true) :
    vx_Back l R p e below s sargs y len W9 (PreOf R mc ms Pc) (PostOf Qc mc ms free) (vx_Post XC mc ms free) := by
  intro m meth c A g ig mk a X hg hsize hdg hW hn hp
  have h1 : (headSpec ws rm).pre.before a A.U = true := atoms_intro fun w hw => hws w hw _ _ X.warmed
  have h2 : (Cond.codeWith y bytes maxL ret hh).before a A.U = true := hws _ hcode _ _ X.warmed
  have h3 : (Cond.initialized y.cls).before a A.U = true := hinit _ _ X.warmed
  have h4 : A.cells + (headSpec ws rm).room.cells ≤ R.cells := by rw [show (headSpec ws rm).room.cells = mc from hrc]; exact hp.1
  have h5 : A.slots + (headSpec ws rm).room.slots ≤ R.slots := by rw [show (headSpec ws rm).room.slots = ms from hrs]; exact hp.2.1
  have hPc : Pc a (A.U.calling g mk a) := hblind _ _ _ _ hp.2.2
  obtain ⟨U, Ls, c0, s0⟩ := A
  dsimp only [Pt.U, Pt.locs, Pt.cells, Pt.slots] at h1 h2 h3 h4 h5 X hn hPc ⊢
  obtain ⟨m9, methY, cY, hn9, hmY, hcY, -, hlY, -⟩ := Cond.codeWith_spec h2
  cases Option.some.inj (hn9.symm.trans hn)
  obtain ⟨kY, hkY, -⟩ := className_of_methodNamed hn
  have hinitY : kY.init = .initialized := Cond.initialized_spec (findClass_of_methodNamed hn) hkY h3
  have h : At U g.method c below := by rw [hg]; exact X.here
  have hlocals9 : W9 + (maxL + 11) + (headSpec ws rm).room.locals ≤ R.locals := hlocals
  have happ : (headSpec ws rm).appliesLoose y e.platform (U.calling g mk a) = true :=
    Spec.appliesLoose_calling (g := g) h hdg hn hkY hinitY
      (X.room_calling (g := g) (R' := (headSpec ws rm).room) hsize hmY hcY hframes (by rw [hlY]; omega) h4 h5) h1
  obtain ⟨mid, hmid⟩ := h.above
  have hfr : (U.setTop g).frames = (.java g :: mid) ++ below := by rw [State.frames_setTop' g h.top, hmid]; rfl
  obtain ⟨o, s₂, hsteps, -, hend, hq⟩ := Steps.callFree hM p X.admits X.cas X.clock (acts := []) hfr happ hPc trivial
  have hq' : vx_Q Qc XC mc ms free a (U.calling g mk a) o s₂ := hq
  rw [State.frames_setTop' g h.top] at hend
  obtain ⟨g₀, hg0⟩ := Option.isSome_iff_exists.mp h.top
  obtain ⟨r, hr⟩ := State.topJava?_eq_some.mp hg0
  have hr' : (({ U with heap := s₂.heap, slotsUsed := s₂.slotsUsed } : State).setVm s₂.vm).frames = .java g₀ :: r := hr
  rcases hq' with ⟨hqc, L, hfe, hL⟩ | ⟨q, rfl, E, ce, L, hx, hce, hcv, hcl, hW₂, hsm, hL⟩
  · obtain ⟨⟨v, rfl⟩, hW₂, e2, q2, q3, q4, q5, q6⟩ := id hfe
    have e3 : s₂ = ({ (U.calling g mk a).setFrames s₂.frames with heap := s₂.heap, slotsUsed := s₂.slotsUsed } : State).setVm s₂.vm := by
      have : s₂ = ({ s₂ with vm := (U.calling g mk a).vm } : State).setVm s₂.vm := rfl
      rw [e2] at this
      exact this
    obtain ⟨c₂, i₂, len₂, hc₂, hd₂, hf₂⟩ := hend
    have hW' : U.WarmedH s₂.vm := hW₂
    have hcc : c₂ = c := by
      have h1 : s₂.code? g.method = U.code? g.method := by
        rw [State.code?_eq, State.code?_eq, hW'.alike.method?]
      exact Option.some.inj (hc₂.symm.trans (h1.trans h.code))
    subst hcc
    have hlen : len₂ = len := by rw [hdg] at hd₂; cases hd₂; rfl
    subst hlen
    have hs₂ : s₂ = (({ U with heap := s₂.heap, slotsUsed := s₂.slotsUsed } : State).setVm s₂.vm).setTop { g with pc := g.pc + len₂, stack := v.toList ++ g.stack } := by
      refine e3.trans ?_
      rw [hf₂, State.calling_eq h.top, State.setFrames_setFrames, State.setTop_of_frames _ hr', hr]
      rfl
    have hsame : U.sameButNew ({ U with heap := s₂.heap, slotsUsed := s₂.slotsUsed } : State) L mc ms := by
      refine ⟨?_, q2, q3, q4, q5, q6⟩
      obtain ⟨t, ht, -⟩ := State.frames_cons hr
      show ({ U with heap := s₂.heap, slotsUsed := s₂.slotsUsed } : State) = { U.setFrames U.frames with heap := s₂.heap, slotsUsed := s₂.slotsUsed }
      rw [State.setFrames_self ht]
    subst hg
    refine Or.inl ⟨v, ⟨(({ U with heap := s₂.heap, slotsUsed := s₂.slotsUsed } : State).setVm s₂.vm), Ls ++ L, c0 + mc, s0 + ms⟩,
      ⟨X.admits, X.cas, X.clock, X.frames, X.room, X.hears, X.method, X.code, (X.here.setHeapUsed s₂.heap s₂.slotsUsed).setVm hW'.alike, X.tail, State.WarmedH.trans X.warmed hW', X.limits, X.bytes, X.same.trans (hsame.setVm s.vm)⟩,
      ⟨g, mk, s₂, L, rfl, rfl, hqc, rfl, hL, rfl, rfl⟩, ?_⟩
    show Steps p.tables e below _ ((({ U with heap := s₂.heap, slotsUsed := s₂.slotsUsed } : State).setVm s₂.vm).setTop { g with pc := g.pc + len₂, stack := v.toList ++ g.stack })
    rw [← hs₂]
    exact hsteps
  · obtain ⟨e2, q2, q3, q4, q5, q6⟩ := id hsm
    have e3 : s₂ = ({ (U.calling g mk a).setFrames s₂.frames with heap := s₂.heap, slotsUsed := s₂.slotsUsed } : State).setVm s₂.vm := by
      have : s₂ = ({ s₂ with vm := (U.calling g mk a).vm } : State).setVm s₂.vm := rfl
      rw [e2] at this
      exact this
    have hf₂ : s₂.frames = .throwing q :: .java g :: U.frames.tail := hend
    have hW' : U.WarmedH s₂.vm := hW₂
    have hs₂ : s₂ = ((({ U with heap := s₂.heap, slotsUsed := s₂.slotsUsed } : State).setVm s₂.vm).setTop g).pushFrame (.throwing q) := by
      refine e3.trans ?_
      rw [hf₂, State.calling_eq h.top, State.setFrames_setFrames, State.pushFrame, State.frames_setTop _ hr', State.setTop_of_frames _ hr', State.setFrames_setFrames, hr]
      rfl
    have hsame : U.sameButNew ({ U with heap := s₂.heap, slotsUsed := s₂.slotsUsed } : State) L mc ms := by
      refine ⟨?_, q2, q3, q4, q5, q6⟩
      obtain ⟨t, ht, -⟩ := State.frames_cons hr
      show ({ U with heap := s₂.heap, slotsUsed := s₂.slotsUsed } : State) = { U.setFrames U.frames with heap := s₂.heap, slotsUsed := s₂.slotsUsed }
      rw [State.setFrames_self ht]
    subst hg
    refine Or.inr ⟨q, ⟨(({ U with heap := s₂.heap, slotsUsed := s₂.slotsUsed } : State).setVm s₂.vm), Ls ++ L, c0 + mc, s0 + ms⟩,
      ⟨X.admits, X.cas, X.clock, X.frames, X.room, X.hears, X.method, X.code, (X.here.setHeapUsed s₂.heap s₂.slotsUsed).setVm hW'.alike, X.tail, State.WarmedH.trans X.warmed hW', X.limits, X.bytes, X.same.trans (hsame.setVm s.vm)⟩,
      ⟨g, mk, s₂, L, E, ce, rfl, rfl, hx, hce, hcv, hcl, rfl, hL, rfl, rfl⟩, ?_⟩
    show Steps p.tables e below _ (((({ U with heap := s₂.heap, slotsUsed := s₂.slotsUsed } : State).setVm s₂.vm).setTop g).pushFrame (.throwing q))
    rw [← hs₂]
    exact hsteps
end
variable {p : Program} {l : Launch} {e : Env} {R : Room} {s : State} {m : MethodId} {args : Array Value} {below : List Frame} {meth : Method} {c : Code} {T : State} {H : Heap} {locs : List Loc} {cells slots : Nat}
theorem vx_callVX (X : Stand p l e R s m args below meth c T locs cells slots) (hexec : p.tables.exec = Jvm.exec) {own C : String} {index : Nat} {y : MethodName} {bytes : ByteArray} {maxL : Nat} {ret : Option FieldType} {hh : List (Nat × Nat × Nat × Nat)}
    (hown : s.vm.findClass own = some m.cls) (hlink : (Cond.methodLink own index y).before args s = true) (hinst : (Cond.instanceMethod y).before args s = true) (hsel : (Cond.selects C y y).before args s = true)
    (hcode : (Cond.codeWith y bytes maxL ret hh).before args s = true) (hy : y.cls ≠ "java/lang/invoke/MethodHandle" ∧ y.cls ≠ "java/lang/invoke/VarHandle")
    {W9 : Nat} {Pre : Pt → Array Value → Prop} {Post : Pt → Array Value → Option Value → Pt → Prop} {PostX : Pt → Array Value → Addr → Pt → Prop} (hK : vx_Back l R p e below s args y 3 W9 Pre Post PostX)
    {b : Addr} {cellB : Cell} (hcell : T.heap[b]? = some cellB) (hobj : cellB.vm.isStatics = false) (hcls : s.vm.findClass C = some cellB.cls)
    {g : JFrame} (hg : g.method = m) (hsize : g.locals.size = c.maxLocals) {argsL rest : List Value} (hlen : ∀ sig, parseMethodDescriptor y.desc = some sig → argsL.length = sig.parameters.length)
    (hstack : g.stack = argsL.reverse ++ .ref b :: rest) (hW : 2 * g.monitorRoom + (rest.map fun v => v.category).sum ≤ W9) (hdg : decode c.code g.pc = .ok (.invokevirtual index, 3))
    (hpre : ∀ vm₁, s.WarmedH vm₁ → Pre ⟨T.setVm vm₁, locs, cells, slots⟩ (Value.ref b :: argsL).toArray) :
    (∃ (v : Option Value) (vm₁ : Vm) (B : Pt), s.WarmedH vm₁ ∧ Stand p l e R s m args below meth c B.U B.locs B.cells B.slots ∧ Post ⟨T.setVm vm₁, locs, cells, slots⟩ (Value.ref b :: argsL).toArray v B ∧
      ∀ target, Steps p.tables e below (B.U.setTop { g with pc := g.pc + 3, stack := v.toList ++ rest }) target → Steps p.tables e below (T.setTop g) target) ∨
    (∃ (q : Addr) (vm₁ : Vm) (B : Pt), s.WarmedH vm₁ ∧ Stand p l e R s m args below meth c B.U B.locs B.cells B.slots ∧ PostX ⟨T.setVm vm₁, locs, cells, slots⟩ (Value.ref b :: argsL).toArray q B ∧
      Steps p.tables e below (T.setTop g) ((B.U.setTop { g with stack := rest }).pushFrame (.throwing q))) := by
  obtain ⟨mk, methM, hnamed, hmethM, hstM, habM⟩ := Cond.instanceMethod_spec hinst
  obtain ⟨m8, methM', cM, hn8, hmethM', -, -, -, -, -, -, hsigM⟩ := Cond.codeWith_spec hcode
  cases Option.some.inj (hn8.symm.trans hnamed)
  cases hmethM.symm.trans hmethM'
  obtain ⟨c2, r2, m2, q1, q2, q3, q4, kP, hkP, hkPi⟩ := Cond.selects_spec hsel
  cases hcls.symm.trans q1
  cases (State.methodFound?_of_named hnamed hy).symm.trans q2
  cases hnamed.symm.trans q3
  have hselP : selectMethod e.platform s.vm cellB.cls mk = .method mk := by rw [Launch.admits_selectMethod X.admits]; exact q4
  obtain ⟨vm₁, X₁, hstep₁⟩ := X.invokevirtual hexec hown hlink hnamed hmethM hstM hkP hkPi hy (a := b) (cell := cellB) hcell
    (fun z h => by rw [h] at hobj; cases hobj) hselP hmethM habM hkP hkPi (g := g) hg (argsL := argsL) (rest := rest) (hlen _ hsigM) hstack hdg
  rcases hK m meth c ⟨T.setVm vm₁, locs, cells, slots⟩ { g with stack := rest } (.invokevirtual index) mk (Value.ref b :: argsL).toArray X₁ hg hsize hdg hW (X₁.named hnamed) (hpre vm₁ X₁.warmed) with ⟨v, B, X', hpost, hsteps⟩ | ⟨q, B, X', hpost, hsteps⟩
  · exact Or.inl ⟨v, vm₁, B, X₁.warmed, X', hpost, fun target h => hstep₁ _ fun acts => by rw [doInvoke_state]; exact hsteps.trans h⟩
  · exact Or.inr ⟨q, vm₁, B, X₁.warmed, X', hpost, hstep₁ _ fun acts => by rw [doInvoke_state]; exact hsteps⟩
theorem vx_callSX (X : Stand p l e R s m args below meth c T locs cells slots) (hexec : p.tables.exec = Jvm.exec) {own : String} {index : Nat} {y : MethodName} {bytes : ByteArray} {maxL : Nat} {ret : Option FieldType} {hh : List (Nat × Nat × Nat × Nat)}
    (hown : s.vm.findClass own = some m.cls) (hlink : (Cond.methodLink own index y).before args s = true) (hstat : (Cond.static y).before args s = true) (hinit : (Cond.initialized y.cls).before args s = true)
    (hcode : (Cond.codeWith y bytes maxL ret hh).before args s = true) (hy : y.cls ≠ "java/lang/invoke/MethodHandle" ∧ y.cls ≠ "java/lang/invoke/VarHandle")
    {W9 : Nat} {Pre : Pt → Array Value → Prop} {Post : Pt → Array Value → Option Value → Pt → Prop} {PostX : Pt → Array Value → Addr → Pt → Prop} (hK : vx_Back l R p e below s args y 3 W9 Pre Post PostX)
    {g : JFrame} (hg : g.method = m) (hsize : g.locals.size = c.maxLocals) {argsL rest : List Value} (hlen : ∀ sig, parseMethodDescriptor y.desc = some sig → argsL.length = sig.parameters.length)
    (hstack : g.stack = argsL.reverse ++ rest) (hW : 2 * g.monitorRoom + (rest.map fun v => v.category).sum ≤ W9) (hdg : decode c.code g.pc = .ok (.invokestatic index, 3))
    (hpre : ∀ vm₁, s.WarmedH vm₁ → Pre ⟨T.setVm vm₁, locs, cells, slots⟩ argsL.toArray) :
    (∃ (v : Option Value) (vm₁ : Vm) (B : Pt), s.WarmedH vm₁ ∧ Stand p l e R s m args below meth c B.U B.locs B.cells B.slots ∧ Post ⟨T.setVm vm₁, locs, cells, slots⟩ argsL.toArray v B ∧
      ∀ target, Steps p.tables e below (B.U.setTop { g with pc := g.pc + 3, stack := v.toList ++ rest }) target → Steps p.tables e below (T.setTop g) target) ∨
    (∃ (q : Addr) (vm₁ : Vm) (B : Pt), s.WarmedH vm₁ ∧ Stand p l e R s m args below meth c B.U B.locs B.cells B.slots ∧ PostX ⟨T.setVm vm₁, locs, cells, slots⟩ argsL.toArray q B ∧
      Steps p.tables e below (T.setTop g) ((B.U.setTop { g with stack := rest }).pushFrame (.throwing q))) := by
  obtain ⟨mk, methM, cM, hnamed, hmethM, -, -, -, -, -, -, hsigM⟩ := Cond.codeWith_spec hcode
  have hstatic : methM.isStatic = true := Cond.static_spec hnamed hmethM hstat
  obtain ⟨kP, hkP, -⟩ := className_of_methodNamed hnamed
  have hinitP : kP.init = .initialized := Cond.initialized_spec (findClass_of_methodNamed hnamed) hkP hinit
  obtain ⟨vm₁, X₁, hstep₁⟩ := X.invokestatic hexec hown hlink hnamed hmethM hstatic hkP hinitP hy (g := g) hg (argsL := argsL) (rest := rest) (hlen _ hsigM) hstack hdg
  rcases hK m meth c ⟨T.setVm vm₁, locs, cells, slots⟩ { g with stack := rest } (.invokestatic index) mk argsL.toArray X₁ hg hsize hdg hW (X₁.named hnamed) (hpre vm₁ X₁.warmed) with ⟨v, B, X', hpost, hsteps⟩ | ⟨q, B, X', hpost, hsteps⟩
  · exact Or.inl ⟨v, vm₁, B, X₁.warmed, X', hpost, fun target h => hstep₁ _ fun acts => by rw [doInvoke_state]; exact hsteps.trans h⟩
  · exact Or.inr ⟨q, vm₁, B, X₁.warmed, X', hpost, hstep₁ _ fun acts => by rw [doInvoke_state]; exact hsteps⟩
theorem vx_callVW (X : Stand p l e R s m args below meth c T locs cells slots) (hexec : p.tables.exec = Jvm.exec) {own C : String} {index : Nat} {y : MethodName} {bytes : ByteArray} {maxL : Nat} {ret : Option FieldType} {hh : List (Nat × Nat × Nat × Nat)}
    (hown : s.vm.findClass own = some m.cls) (hlink : (Cond.methodLink own index y).before args s = true) (hinst : (Cond.instanceMethod y).before args s = true) (hsel : (Cond.selects C y y).before args s = true)
    (hcode : (Cond.codeWith y bytes maxL ret hh).before args s = true) (hy : y.cls ≠ "java/lang/invoke/MethodHandle" ∧ y.cls ≠ "java/lang/invoke/VarHandle")
    {W9 : Nat} {Pre : Pt → Array Value → Prop} {Post : Pt → Array Value → Option Value → Pt → Prop} (hK : Back l R p e below s args y 3 W9 Pre Post)
    {b : Addr} {cellB : Cell} (hcell : T.heap[b]? = some cellB) (hobj : cellB.vm.isStatics = false) (hcls : s.vm.findClass C = some cellB.cls)
    {g : JFrame} (hg : g.method = m) (hsize : g.locals.size = c.maxLocals) {argsL rest : List Value} (hlen : ∀ sig, parseMethodDescriptor y.desc = some sig → argsL.length = sig.parameters.length)
    (hstack : g.stack = argsL.reverse ++ .ref b :: rest) (hW : 2 * g.monitorRoom + (rest.map fun v => v.category).sum ≤ W9) (hdg : decode c.code g.pc = .ok (.invokevirtual index, 3))
    (hpre : ∀ vm₁, s.WarmedH vm₁ → Pre ⟨T.setVm vm₁, locs, cells, slots⟩ (Value.ref b :: argsL).toArray) :
    ∃ (v : Option Value) (vm₁ : Vm) (B : Pt), s.WarmedH vm₁ ∧ Stand p l e R s m args below meth c B.U B.locs B.cells B.slots ∧ Post ⟨T.setVm vm₁, locs, cells, slots⟩ (Value.ref b :: argsL).toArray v B ∧
      ∀ target, Steps p.tables e below (B.U.setTop { g with pc := g.pc + 3, stack := v.toList ++ rest }) target → Steps p.tables e below (T.setTop g) target := by
  obtain ⟨mk, methM, hnamed, hmethM, hstM, habM⟩ := Cond.instanceMethod_spec hinst
  obtain ⟨m8, methM', cM, hn8, hmethM', -, -, -, -, -, -, hsigM⟩ := Cond.codeWith_spec hcode
  cases Option.some.inj (hn8.symm.trans hnamed)
  cases hmethM.symm.trans hmethM'
  obtain ⟨c2, r2, m2, q1, q2, q3, q4, kP, hkP, hkPi⟩ := Cond.selects_spec hsel
  cases hcls.symm.trans q1
  cases (State.methodFound?_of_named hnamed hy).symm.trans q2
  cases hnamed.symm.trans q3
  have hselP : selectMethod e.platform s.vm cellB.cls mk = .method mk := by rw [Launch.admits_selectMethod X.admits]; exact q4
  obtain ⟨vm₁, X₁, hstep₁⟩ := X.invokevirtual hexec hown hlink hnamed hmethM hstM hkP hkPi hy (a := b) (cell := cellB) hcell
    (fun z h => by rw [h] at hobj; cases hobj) hselP hmethM habM hkP hkPi (g := g) hg (argsL := argsL) (rest := rest) (hlen _ hsigM) hstack hdg
  obtain ⟨v, B, X', hpost, hsteps⟩ := hK m meth c ⟨T.setVm vm₁, locs, cells, slots⟩ { g with stack := rest } (.invokevirtual index) mk (Value.ref b :: argsL).toArray X₁ hg hsize hdg hW (X₁.named hnamed) (hpre vm₁ X₁.warmed)
  exact ⟨v, vm₁, B, X₁.warmed, X', hpost, fun target h => hstep₁ _ fun acts => by rw [doInvoke_state]; exact hsteps.trans h⟩
abbrev vx_CVW (R : Room) (s : State) (args : Array Value) (own C : String) (index : Nat) (y : MethodName) (bytes : ByteArray) (maxL : Nat) (ret : Option FieldType) (hh : List (Nat × Nat × Nat × Nat)) (ws : List Cond) (rm : Room) (mc ms n : Nat) : Prop :=
  (rm.cells = mc ∧ rm.slots = ms ∧ rm.frames + 1 ≤ R.frames ∧ 8 + (maxL + 11) + rm.locals ≤ R.locals ∧ (∀ w ∈ ws, ∀ (a' : Array Value) (U : State), s.WarmedH U.vm → w.before a' U = true) ∧ Cond.codeWith y bytes maxL ret hh ∈ ws) ∧
  (Cond.codeWith y bytes maxL ret hh).before args s = true ∧ (Cond.initialized y.cls).before args s = true ∧ (y.cls ≠ "java/lang/invoke/MethodHandle" ∧ y.cls ≠ "java/lang/invoke/VarHandle") ∧
  (∀ sig, parseMethodDescriptor y.desc = some sig → n = sig.parameters.length) ∧ (Cond.methodLink own index y).before args s = true ∧ (Cond.instanceMethod y).before args s = true ∧ (Cond.selects C y y).before args s = true
theorem vx_cwVW {own C : String} {index maxL mc ms : Nat} {y : MethodName} {bytes : ByteArray} {ret : Option FieldType} {hh : List (Nat × Nat × Nat × Nat)} {Ts ws ws' : List Cond} {rm : Room} (n : Nat) (ht : ∀ w ∈ Ts, w.before args s = true) (hT : GoodIn Ts (wsV own index C y ws)) (hw : ws = Cond.codeWith y bytes maxL ret hh :: ws') (hrc : rm.cells = mc) (hrs : rm.slots = ms)
    (hd : y.cls = C ∧ y.cls ≠ "java/lang/invoke/MethodHandle" ∧ y.cls ≠ "java/lang/invoke/VarHandle" ∧ (parseMethodDescriptor y.desc).map (fun d => d.parameters.length) = some n) (hR : rm.frames + 1 ≤ R.frames ∧ 8 + (maxL + 11) + rm.locals ≤ R.locals) :
    vx_CVW R s args own C index y bytes maxL ret hh ws rm mc ms n := by
  obtain ⟨hC, hd⟩ := hd
  subst hC
  have ok : ∀ w ∈ wsV own index y.cls y ws, w.before args s = true := fun w h => ht w (hT w h).1
  have hG : GoodIn Ts ws := fun w h => hT w (by unfold wsV; exact List.mem_append_right _ h)
  have hc : Cond.codeWith y bytes maxL ret hh ∈ ws := by rw [hw]; exact List.mem_cons_self
  refine ⟨⟨hrc, hrs, hR.1, hR.2, pay_in ht hG, hc⟩, ht _ (hG _ hc).1, ok _ (by simp [wsV]), ⟨hd.1, hd.2.1⟩, fun sig h => ?_, ok _ (by simp [wsV]), ok _ (by simp [wsV]), ok _ (by simp [wsV])⟩
  have h2 := hd.2.2
  rw [h] at h2
  exact (Option.some.inj h2).symm
theorem vx_runVW {y : MethodName} {bytes cc : ByteArray} {maxL nL mc ms n index : Nat} {ret : Option FieldType} {hh : List (Nat × Nat × Nat × Nat)} {ws : List Cond} {rm : Room} {Pc : Array Value → State → Prop} {Qc : Array Value → State → Outcome → State → Prop} {free : Addr → Prop} {Ts : List Cond} {own C : String} {b : Addr} {As rest : List Value} {g : JFrame}
    (S : CallFix p m c cc nL s args Ts own) (hM : Met l y ws rm Pc Qc mc ms free) (cw : vx_CVW R s args own C index y bytes maxL ret hh ws rm mc ms n) (hp : PreV s H C b Pc As)
    (hg : g.method = m) (hn : As.length = n) (hsize : g.locals.size = nL) (hstack : g.stack = As.reverse ++ .ref b :: rest) (hW : 2 * g.monitorRoom + (rest.map fun v => v.category).sum ≤ 8) (hdg : decode cc g.pc = .ok (.invokevirtual index, 3)) (hf : cells + mc ≤ R.cells ∧ slots + ms ≤ R.slots) :
    va_Run p l e R s m args below meth c H locs cells slots mc ms g rest (Qc (Value.ref b :: As).toArray) free := by
  obtain ⟨⟨hrc, hrs, hfr, hlo, hws, hcw⟩, hcode, hini, hy, hlen, hl, hin, hse⟩ := cw
  have hK : Back l R p e below s args y 3 8 (PreOf R mc ms Pc) (PostOf Qc mc ms free) := va_backW (hh := hh) (bytes := bytes) (maxL := maxL) (ret := ret) hM hp.1 hrc hrs hfr hlo hws hcw (fun a' U hW => word_at hW (Or.inl (by first | rfl | simp [Cond.onTables, Cond.keeps, Cond.steady])) hini)
  obtain ⟨hx, hb, hml, ho, -⟩ := S
  obtain ⟨-, ⟨cellB, hcB, hoB, hclB⟩, hPc⟩ := hp
  intro T hT X
  obtain ⟨v, vm₁, ⟨U', l2, c2, s2⟩, hW₁, X', ⟨g', mk, t, L, e1, e2, hq, h1, hL, h2, h3⟩, st⟩ := vx_callVW X hx (C := C) (hh := hh) (bytes := bytes) (maxL := maxL) (ret := ret) ho hl hin hse hcode hy hK (by rw [hT]; exact hcB) hoB hclB hg (hsize.trans hml.symm) (argsL := As) (rest := rest) (fun sig h => hn.trans (hlen sig h)) hstack hW (by rw [hb]; exact hdg)
    (fun vm₁ hW₁ => ⟨hf.1, hf.2, hPc (T.setVm vm₁) hT hW₁⟩)
  dsimp only [Pt.U, Pt.locs, Pt.cells, Pt.slots] at X' e1 e2 h1 h2 h3 st
  subst h1; subst h2; subst h3
  exact ⟨v, (T.setVm vm₁).calling g' mk (Value.ref b :: As).toArray, t, U', L, hT, X', hL, e1, e2, hq, st⟩
section
variable {y : MethodName} {bytes cc : ByteArray} {maxL nL mc ms n index : Nat} {ret : Option FieldType} {ws : List Cond} {rm : Room} {Pc : Array Value → State → Prop} {Qc : Array Value → State → Outcome → State → Prop} {XC : String → State → State → Prop} {free : Addr → Prop} {Ts : List Cond} {own C : String} {b : Addr} {As rest : List Value} {g : JFrame}
theorem vx_runVX {hh : List (Nat × Nat × Nat × Nat)} (S : CallFix p m c cc nL s args Ts own) (hM : vx_Met l y ws rm Pc Qc XC mc ms free) (cw : vx_CVW R s args own C index y bytes maxL ret hh ws rm mc ms n) (hp : PreV s H C b Pc As)
    (hg : g.method = m) (hn : As.length = n) (hsize : g.locals.size = nL) (hstack : g.stack = As.reverse ++ .ref b :: rest) (hW : 2 * g.monitorRoom + (rest.map fun v => v.category).sum ≤ 8) (hdg : decode cc g.pc = .ok (.invokevirtual index, 3)) (hf : cells + mc ≤ R.cells ∧ slots + ms ≤ R.slots) :
    vx_Run p l e R s m args below meth c H locs cells slots mc ms g rest (Qc (Value.ref b :: As).toArray) XC free := by
  obtain ⟨⟨hrc, hrs, hfr, hlo, hws, hcw⟩, hcode, hini, hy, hlen, hl, hin, hse⟩ := cw
  have hK : vx_Back l R p e below s args y 3 8 (PreOf R mc ms Pc) (PostOf Qc mc ms free) (vx_Post XC mc ms free) := vx_backW (hh := hh) (bytes := bytes) (maxL := maxL) (ret := ret) hM hp.1 hrc hrs hfr hlo hws hcw (fun a' U hW => word_at hW (Or.inl (by first | rfl | simp [Cond.onTables, Cond.keeps, Cond.steady])) hini)
  obtain ⟨hx, hb, hml, ho, -⟩ := S
  obtain ⟨-, ⟨cellB, hcB, hoB, hclB⟩, hPc⟩ := hp
  intro T hT X
  rcases vx_callVX X hx (C := C) (hh := hh) (bytes := bytes) (maxL := maxL) (ret := ret) ho hl hin hse hcode hy hK (by rw [hT]; exact hcB) hoB hclB hg (hsize.trans hml.symm) (argsL := As) (rest := rest) (fun sig h => hn.trans (hlen sig h)) hstack hW (by rw [hb]; exact hdg)
    (fun vm₁ hW₁ => ⟨hf.1, hf.2, hPc (T.setVm vm₁) hT hW₁⟩) with ⟨v, vm₁, ⟨U', l2, c2, s2⟩, hW₁, X', ⟨g', mk, t, L, e1, e2, hq, h1, hL, h2, h3⟩, st⟩ | ⟨q, vm₁, ⟨U', l2, c2, s2⟩, hW₁, X', ⟨g', mk, t, L, E, ce, e1, e2, hq, hce, hcv, hcl, h1, hL, h2, h3⟩, st⟩
  · dsimp only [Pt.U, Pt.locs, Pt.cells, Pt.slots] at X' e1 e2 h1 h2 h3 st
    subst h1; subst h2; subst h3
    exact Or.inl ⟨v, (T.setVm vm₁).calling g' mk (Value.ref b :: As).toArray, t, U', L, hT, X', hL, e1, e2, hq, st⟩
  · dsimp only [Pt.U, Pt.locs, Pt.cells, Pt.slots] at X' e1 e2 h1 h2 h3 st hcl
    subst h1; subst h2; subst h3
    exact Or.inr ⟨q, (T.setVm vm₁).calling g' mk (Value.ref b :: As).toArray, t, U', L, E, ce, hT, X', hL, e1, e2, hq, hce, hcv, vx_cls hW₁ hcl, st⟩
theorem vx_runSX {hh : List (Nat × Nat × Nat × Nat)} (S : CallFix p m c cc nL s args Ts own) (hM : vx_Met l y ws rm Pc Qc XC mc ms free) (cw : vx_CSW R s args own index y bytes maxL ret hh ws rm mc ms n) (hp : PreS s H Pc As)
    (hg : g.method = m) (hn : As.length = n) (hsize : g.locals.size = nL) (hstack : g.stack = As.reverse ++ rest) (hW : 2 * g.monitorRoom + (rest.map fun v => v.category).sum ≤ 8) (hdg : decode cc g.pc = .ok (.invokestatic index, 3)) (hf : cells + mc ≤ R.cells ∧ slots + ms ≤ R.slots) :
    vx_Run p l e R s m args below meth c H locs cells slots mc ms g rest (Qc As.toArray) XC free := by
  obtain ⟨⟨hrc, hrs, hfr, hlo, hws, hcw⟩, hcode, hini, hy, hlen, hl, hstt⟩ := cw
  have hK : vx_Back l R p e below s args y 3 8 (PreOf R mc ms Pc) (PostOf Qc mc ms free) (vx_Post XC mc ms free) := vx_backW (hh := hh) (bytes := bytes) (maxL := maxL) (ret := ret) hM hp.1 hrc hrs hfr hlo hws hcw (fun a' U hW => word_at hW (Or.inl (by first | rfl | simp [Cond.onTables, Cond.keeps, Cond.steady])) hini)
  obtain ⟨hx, hb, hml, ho, -⟩ := S
  intro T hT X
  rcases vx_callSX X hx (hh := hh) (bytes := bytes) (maxL := maxL) (ret := ret) ho hl hstt hini hcode hy hK hg (hsize.trans hml.symm) (argsL := As) (rest := rest) (fun sig h => hn.trans (hlen sig h)) hstack hW (by rw [hb]; exact hdg)
    (fun vm₁ hW₁ => ⟨hf.1, hf.2, hp.2 (T.setVm vm₁) hT hW₁⟩) with ⟨v, vm₁, ⟨U', l2, c2, s2⟩, hW₁, X', ⟨g', mk, t, L, e1, e2, hq, h1, hL, h2, h3⟩, st⟩ | ⟨q, vm₁, ⟨U', l2, c2, s2⟩, hW₁, X', ⟨g', mk, t, L, E, ce, e1, e2, hq, hce, hcv, hcl, h1, hL, h2, h3⟩, st⟩
  · dsimp only [Pt.U, Pt.locs, Pt.cells, Pt.slots] at X' e1 e2 h1 h2 h3 st
    subst h1; subst h2; subst h3
    exact Or.inl ⟨v, (T.setVm vm₁).calling g' mk As.toArray, t, U', L, hT, X', hL, e1, e2, hq, st⟩
  · dsimp only [Pt.U, Pt.locs, Pt.cells, Pt.slots] at X' e1 e2 h1 h2 h3 st hcl
    subst h1; subst h2; subst h3
    exact Or.inr ⟨q, (T.setVm vm₁).calling g' mk As.toArray, t, U', L, E, ce, hT, X', hL, e1, e2, hq, hce, hcv, vx_cls hW₁ hcl, st⟩
end
end VXH
theorem vx_ofWH {l : Launch} {y : MethodName} {ws ws' : List Cond} {rm : Room} {Pc : Array Value → State → Prop} {Qc : Array Value → State → Outcome → State → Prop} {XC : String → State → State → Prop} {mc ms : Nat} {free : Addr → Prop} {cc : ByteArray} {maxL : Nat} {ret : Option FieldType} {hh : List (Nat × Nat × Nat × Nat)}
    (hy : plainName y.cls = true) (hw : ws = Cond.codeWith y cc maxL ret hh :: ws')
    (body : ∀ p e s m args below meth c s₁, BodyLoose p l y (headSpec ws rm) cc maxL ret e s m args below meth c s₁ → c.maxLocals = maxL → Pc args s →
      W p l e (headSpec ws rm).room s m args below meth c s.heap [] 0 0 (vx_MQ below Qc XC args s mc ms free) (entryFrame m args maxL)) : vx_Met l y ws rm Pc Qc XC mc ms free := by
  refine MetFree.of_bodyS (code := cc) (maxLocals := maxL) (ret := ret) hy ?_ ?_
  · intro args s m h hn
    obtain ⟨m9, meth, c, hn9, h1, h2, h3, h4, -, h5, h6, -⟩ := Cond.codeWith_spec (atoms_spec (ws := ws) h _ (by rw [hw]; exact List.mem_cons_self))
    cases hn.symm.trans hn9
    exact ⟨meth, c, h1, h2, h3, h4, h5, h6⟩
  · intro p e s m args below meth c s₁ B hml hP _
    have hh0 : s₁.heap = s.heap := by rw [B.state]; rfl
    obtain ⟨t, a1, o, b1, b2, b3⟩ := body p e s m args below meth c s₁ B hml hP s₁ hh0 (Stand.of_body B)
    exact ⟨t, o, a1, b1, b2, b3⟩
/-! ===== END ===== -/
end
section
/-! ===== BEGIN printed: names, fields, word lists, decode rows ===== -/
def RX0 : String := "EditGraph"
def TX0 : u_T := fun k => match k with
  | 0 => ("EditGraph", "eventCount", "I", false)
  | 1 => ("EditGraph", "makers", "[I", true)
  | 2 => ("EditGraph", "letters", "[I", true)
  | 3 => ("EditGraph", "targets", "[I", true)
  | 4 => ("EditGraph", "parentSets", "[J", true)
  | 5 => ("EditGraph", "ancestorSets", "[J", true)
  | 6 => ("EditGraph", "laterSets", "[J", true)
  | 7 => ("EditGraph", "knownSets", "[J", true)
  | 8 => ("EditGraph", "firstAtBeginning", "I", false)
  | 9 => ("EditGraph", "firstHanging", "[I", true)
  | 10 => ("EditGraph", "nextBeside", "[I", true)
  | 11 => ("EditGraph", "textEvents", "[I", true)
  | 12 => ("EditGraph", "waiting", "[I", true)
  | _ => ("EditGraph", "behind", "[I", true)
def tyX0 : Nat → FieldType := fun k => match k with
  | 0 => .int
  | 1 => .array .int
  | 2 => .array .int
  | 3 => .array .int
  | 4 => .array .long
  | 5 => .array .long
  | 6 => .array .long
  | 7 => .array .long
  | 8 => .int
  | 9 => .array .int
  | 10 => .array .int
  | 11 => .array .int
  | 12 => .array .int
  | _ => .array .int
abbrev wsX00 : List Cond := u_ws RX0 TX0 14
theorem nmX0 : ∀ a, a < 14 → ∀ b, b < 14 → a ≠ b → (TX0 a).2.1 ≠ (TX0 b).2.1 := by decide +kernel
theorem tyX0_ok : ∀ k, k < 14 → parseFieldDescriptor (TX0 k).2.2.1 = some (tyX0 k) := by decide +kernel
abbrev cX0_init : ByteArray := prog_1_method_1_code
def yX0_init : MethodName := ⟨RX0, "<init>", "()V"⟩
abbrev cX0_insert : ByteArray := prog_1_method_2_code
def yX0_insert : MethodName := ⟨RX0, "insert", "(III)I"⟩
abbrev cX0_delete : ByteArray := prog_1_method_3_code
def yX0_delete : MethodName := ⟨RX0, "delete", "(II)I"⟩
abbrev cX0_learn : ByteArray := prog_1_method_4_code
def yX0_learn : MethodName := ⟨RX0, "learn", "(II)I"⟩
abbrev cX0_learnEvent : ByteArray := prog_1_method_5_code
def yX0_learnEvent : MethodName := ⟨RX0, "learnEvent", "(II)I"⟩
abbrev cX0_events : ByteArray := prog_1_method_6_code
def yX0_events : MethodName := ⟨RX0, "events", "()I"⟩
abbrev cX0_length : ByteArray := prog_1_method_7_code
def yX0_length : MethodName := ⟨RX0, "length", "(I)I"⟩
abbrev cX0_letterAt : ByteArray := prog_1_method_8_code
def yX0_letterAt : MethodName := ⟨RX0, "letterAt", "(II)I"⟩
abbrev cX0_letterByList : ByteArray := prog_1_method_9_code
def yX0_letterByList : MethodName := ⟨RX0, "letterByList", "(II)I"⟩
abbrev cX0_eventAt : ByteArray := prog_1_method_10_code
def yX0_eventAt : MethodName := ⟨RX0, "eventAt", "(II)I"⟩
abbrev cX0_lengthOf : ByteArray := prog_1_method_11_code
def yX0_lengthOf : MethodName := ⟨RX0, "lengthOf", "(I)I"⟩
abbrev cX0_letterOf : ByteArray := prog_1_method_12_code
def yX0_letterOf : MethodName := ⟨RX0, "letterOf", "(II)I"⟩
abbrev cX0_lettersBy : ByteArray := prog_1_method_13_code
def yX0_lettersBy : MethodName := ⟨RX0, "lettersBy", "(II)I"⟩
abbrev cX0_authorOf : ByteArray := prog_1_method_14_code
def yX0_authorOf : MethodName := ⟨RX0, "authorOf", "(I)I"⟩
abbrev cX0_parents : ByteArray := prog_1_method_15_code
def yX0_parents : MethodName := ⟨RX0, "parents", "(I)J"⟩
abbrev cX0_isLater : ByteArray := prog_1_method_16_code
def yX0_isLater : MethodName := ⟨RX0, "isLater", "(II)Z"⟩
abbrev cX0_version : ByteArray := prog_1_method_17_code
def yX0_version : MethodName := ⟨RX0, "version", "(I)J"⟩
abbrev cX0_heads : ByteArray := prog_1_method_18_code
def yX0_heads : MethodName := ⟨RX0, "heads", "(I)J"⟩
abbrev cX0_commonHeads : ByteArray := prog_1_method_19_code
def yX0_commonHeads : MethodName := ⟨RX0, "commonHeads", "(II)J"⟩
abbrev cX0_concurrent : ByteArray := prog_1_method_20_code
def yX0_concurrent : MethodName := ⟨RX0, "concurrent", "(I)I"⟩
abbrev cX0_critical : ByteArray := prog_1_method_21_code
def yX0_critical : MethodName := ⟨RX0, "critical", "(I)J"⟩
abbrev cX0_toReplay : ByteArray := prog_1_method_22_code
def yX0_toReplay : MethodName := ⟨RX0, "toReplay", "(I)I"⟩
abbrev cX0_runs : ByteArray := prog_1_method_23_code
def yX0_runs : MethodName := ⟨RX0, "runs", "(I)I"⟩
abbrev cX0_checkAuthor : ByteArray := prog_1_method_24_code
def yX0_checkAuthor : MethodName := ⟨RX0, "checkAuthor", "(I)V"⟩
abbrev cX0_checkEvent : ByteArray := prog_1_method_25_code
def yX0_checkEvent : MethodName := ⟨RX0, "checkEvent", "(I)V"⟩
abbrev cX0_checkPlace : ByteArray := prog_1_method_26_code
def yX0_checkPlace : MethodName := ⟨RX0, "checkPlace", "(II)V"⟩
abbrev cX0_checkRoom : ByteArray := prog_1_method_27_code
def yX0_checkRoom : MethodName := ⟨RX0, "checkRoom", "()V"⟩
abbrev cX0_isEvent : ByteArray := prog_1_method_28_code
def yX0_isEvent : MethodName := ⟨RX0, "isEvent", "(I)Z"⟩
abbrev cX0_only : ByteArray := prog_1_method_29_code
def yX0_only : MethodName := ⟨RX0, "only", "(I)J"⟩
abbrev cX0_has : ByteArray := prog_1_method_30_code
def yX0_has : MethodName := ⟨RX0, "has", "(JI)Z"⟩
abbrev cX0_versionOfEvent : ByteArray := prog_1_method_31_code
def yX0_versionOfEvent : MethodName := ⟨RX0, "versionOfEvent", "(I)J"⟩
abbrev cX0_relatedTo : ByteArray := prog_1_method_32_code
def yX0_relatedTo : MethodName := ⟨RX0, "relatedTo", "(I)J"⟩
abbrev cX0_headsOf : ByteArray := prog_1_method_33_code
def yX0_headsOf : MethodName := ⟨RX0, "headsOf", "(J)J"⟩
abbrev cX0_criticalOf : ByteArray := prog_1_method_34_code
def yX0_criticalOf : MethodName := ⟨RX0, "criticalOf", "(J)J"⟩
abbrev cX0_continuesRun : ByteArray := prog_1_method_35_code
def yX0_continuesRun : MethodName := ⟨RX0, "continuesRun", "(I)Z"⟩
abbrev cX0_addEvent : ByteArray := prog_1_method_36_code
def yX0_addEvent : MethodName := ⟨RX0, "addEvent", "(III)I"⟩
abbrev cX0_markLater : ByteArray := prog_1_method_37_code
def yX0_markLater : MethodName := ⟨RX0, "markLater", "(JI)V"⟩
abbrev cX0_hangLetter : ByteArray := prog_1_method_38_code
def yX0_hangLetter : MethodName := ⟨RX0, "hangLetter", "(II)V"⟩
abbrev cX0_addKnown : ByteArray := prog_1_method_39_code
def yX0_addKnown : MethodName := ⟨RX0, "addKnown", "(IJ)I"⟩
abbrev cX0_isInsert : ByteArray := prog_1_method_40_code
def yX0_isInsert : MethodName := ⟨RX0, "isInsert", "(I)Z"⟩
abbrev cX0_eventInText : ByteArray := prog_1_method_41_code
def yX0_eventInText : MethodName := ⟨RX0, "eventInText", "(JI)I"⟩
abbrev cX0_standingIn : ByteArray := prog_1_method_42_code
def yX0_standingIn : MethodName := ⟨RX0, "standingIn", "(J)J"⟩
abbrev cX0_findText : ByteArray := prog_1_method_43_code
def yX0_findText : MethodName := ⟨RX0, "findText", "(J)I"⟩
abbrev cX0_putWaiting : ByteArray := prog_1_method_44_code
def yX0_putWaiting : MethodName := ⟨RX0, "putWaiting", "(II)I"⟩
abbrev cX0_putText : ByteArray := prog_1_method_45_code
def yX0_putText : MethodName := ⟨RX0, "putText", "(JII)I"⟩
abbrev cX0_findTextByList : ByteArray := prog_1_method_46_code
def yX0_findTextByList : MethodName := ⟨RX0, "findTextByList", "(J)I"⟩
abbrev cX0_layList : ByteArray := prog_1_method_47_code
def yX0_layList : MethodName := ⟨RX0, "layList", "(J)I"⟩
def RX1 : String := "EditGraphModel"
def TX1 : u_T := fun k => match k with
  | 0 => ("EditGraphModel", "authorOf", "[I", true)
  | 1 => ("EditGraphModel", "letter", "[I", true)
  | 2 => ("EditGraphModel", "at", "[I", true)
  | 3 => ("EditGraphModel", "parents", "[J", true)
  | 4 => ("EditGraphModel", "ancestors", "[J", true)
  | 5 => ("EditGraphModel", "events", "I", false)
  | 6 => ("EditGraphModel", "knows", "[J", true)
  | 7 => ("EditGraphModel", "row", "[I", true)
  | 8 => ("EditGraphModel", "length", "I", false)
  | _ => ("EditGraphModel", "thrown", "I", false)
def tyX1 : Nat → FieldType := fun k => match k with
  | 0 => .array .int
  | 1 => .array .int
  | 2 => .array .int
  | 3 => .array .long
  | 4 => .array .long
  | 5 => .int
  | 6 => .array .long
  | 7 => .array .int
  | 8 => .int
  | _ => .int
abbrev wsX10 : List Cond := u_ws RX1 TX1 10
theorem nmX1 : ∀ a, a < 10 → ∀ b, b < 10 → a ≠ b → (TX1 a).2.1 ≠ (TX1 b).2.1 := by decide +kernel
theorem tyX1_ok : ∀ k, k < 10 → parseFieldDescriptor (TX1 k).2.2.1 = some (tyX1 k) := by decide +kernel
abbrev cX1_init : ByteArray := prog_3_method_1_code
def yX1_init : MethodName := ⟨RX1, "<init>", "()V"⟩
abbrev cX1_thrown : ByteArray := prog_3_method_2_code
def yX1_thrown : MethodName := ⟨RX1, "thrown", "()I"⟩
abbrev cX1_in : ByteArray := prog_3_method_3_code
def yX1_in : MethodName := ⟨RX1, "in", "(III)Z"⟩
abbrev cX1_asked : ByteArray := prog_3_method_4_code
def yX1_asked : MethodName := ⟨RX1, "asked", "(Z)Z"⟩
abbrev cX1_asked_ : ByteArray := prog_3_method_5_code
def yX1_asked_ : MethodName := ⟨RX1, "asked", "(ZZ)Z"⟩
abbrev cX1_asked__ : ByteArray := prog_3_method_6_code
def yX1_asked__ : MethodName := ⟨RX1, "asked", "(ZZZ)Z"⟩
abbrev cX1_isAuthor : ByteArray := prog_3_method_7_code
def yX1_isAuthor : MethodName := ⟨RX1, "isAuthor", "(I)Z"⟩
abbrev cX1_isEvent : ByteArray := prog_3_method_8_code
def yX1_isEvent : MethodName := ⟨RX1, "isEvent", "(I)Z"⟩
abbrev cX1_has : ByteArray := prog_3_method_9_code
def yX1_has : MethodName := ⟨RX1, "has", "(JI)Z"⟩
abbrev cX1_count : ByteArray := prog_3_method_10_code
def yX1_count : MethodName := ⟨RX1, "count", "(J)I"⟩
abbrev cX1_versionOf : ByteArray := prog_3_method_11_code
def yX1_versionOf : MethodName := ⟨RX1, "versionOf", "(I)J"⟩
abbrev cX1_headsOf : ByteArray := prog_3_method_12_code
def yX1_headsOf : MethodName := ⟨RX1, "headsOf", "(J)J"⟩
abbrev cX1_reads : ByteArray := prog_3_method_13_code
def yX1_reads : MethodName := ⟨RX1, "reads", "(J)V"⟩
abbrev cX1_makes : ByteArray := prog_3_method_14_code
def yX1_makes : MethodName := ⟨RX1, "makes", "(III)I"⟩
abbrev cX1_looks : ByteArray := prog_3_method_15_code
def yX1_looks : MethodName := ⟨RX1, "looks", "(I)Z"⟩
abbrev cX1_insert : ByteArray := prog_3_method_16_code
def yX1_insert : MethodName := ⟨RX1, "insert", "(III)I"⟩
abbrev cX1_delete : ByteArray := prog_3_method_17_code
def yX1_delete : MethodName := ⟨RX1, "delete", "(II)I"⟩
abbrev cX1_learns : ByteArray := prog_3_method_18_code
def yX1_learns : MethodName := ⟨RX1, "learns", "(IJ)I"⟩
abbrev cX1_learn : ByteArray := prog_3_method_19_code
def yX1_learn : MethodName := ⟨RX1, "learn", "(II)I"⟩
abbrev cX1_learnEvent : ByteArray := prog_3_method_20_code
def yX1_learnEvent : MethodName := ⟨RX1, "learnEvent", "(II)I"⟩
abbrev cX1_events : ByteArray := prog_3_method_21_code
def yX1_events : MethodName := ⟨RX1, "events", "()I"⟩
abbrev cX1_length : ByteArray := prog_3_method_22_code
def yX1_length : MethodName := ⟨RX1, "length", "(I)I"⟩
abbrev cX1_letterAt : ByteArray := prog_3_method_23_code
def yX1_letterAt : MethodName := ⟨RX1, "letterAt", "(II)I"⟩
abbrev cX1_letterByList : ByteArray := prog_3_method_24_code
def yX1_letterByList : MethodName := ⟨RX1, "letterByList", "(II)I"⟩
abbrev cX1_eventAt : ByteArray := prog_3_method_25_code
def yX1_eventAt : MethodName := ⟨RX1, "eventAt", "(II)I"⟩
abbrev cX1_looksAt : ByteArray := prog_3_method_26_code
def yX1_looksAt : MethodName := ⟨RX1, "looksAt", "(I)Z"⟩
abbrev cX1_lengthOf : ByteArray := prog_3_method_27_code
def yX1_lengthOf : MethodName := ⟨RX1, "lengthOf", "(I)I"⟩
abbrev cX1_letterOf : ByteArray := prog_3_method_28_code
def yX1_letterOf : MethodName := ⟨RX1, "letterOf", "(II)I"⟩
abbrev cX1_lettersBy : ByteArray := prog_3_method_29_code
def yX1_lettersBy : MethodName := ⟨RX1, "lettersBy", "(II)I"⟩
abbrev cX1_authorOf : ByteArray := prog_3_method_30_code
def yX1_authorOf : MethodName := ⟨RX1, "authorOf", "(I)I"⟩
abbrev cX1_parents : ByteArray := prog_3_method_31_code
def yX1_parents : MethodName := ⟨RX1, "parents", "(I)J"⟩
abbrev cX1_isLater : ByteArray := prog_3_method_32_code
def yX1_isLater : MethodName := ⟨RX1, "isLater", "(II)Z"⟩
abbrev cX1_version : ByteArray := prog_3_method_33_code
def yX1_version : MethodName := ⟨RX1, "version", "(I)J"⟩
abbrev cX1_heads : ByteArray := prog_3_method_34_code
def yX1_heads : MethodName := ⟨RX1, "heads", "(I)J"⟩
abbrev cX1_commonHeads : ByteArray := prog_3_method_35_code
def yX1_commonHeads : MethodName := ⟨RX1, "commonHeads", "(II)J"⟩
abbrev cX1_areConcurrent : ByteArray := prog_3_method_36_code
def yX1_areConcurrent : MethodName := ⟨RX1, "areConcurrent", "(II)Z"⟩
abbrev cX1_concurrent : ByteArray := prog_3_method_37_code
def yX1_concurrent : MethodName := ⟨RX1, "concurrent", "(I)I"⟩
abbrev cX1_criticals : ByteArray := prog_3_method_38_code
def yX1_criticals : MethodName := ⟨RX1, "criticals", "(I)J"⟩
abbrev cX1_critical : ByteArray := prog_3_method_39_code
def yX1_critical : MethodName := ⟨RX1, "critical", "(I)J"⟩
abbrev cX1_toReplay : ByteArray := prog_3_method_40_code
def yX1_toReplay : MethodName := ⟨RX1, "toReplay", "(I)I"⟩
abbrev cX1_goesOn : ByteArray := prog_3_method_41_code
def yX1_goesOn : MethodName := ⟨RX1, "goesOn", "(I)Z"⟩
abbrev cX1_runs : ByteArray := prog_3_method_42_code
def yX1_runs : MethodName := ⟨RX1, "runs", "(I)I"⟩
def RJ13 : String := "java/lang/Long"
def TJ13 : u_T := fun k => match k with
  | _ => ("", "", "", false)
def tyJ13 : Nat → FieldType := fun k => match k with
  | _ => .int
abbrev wsJ130 : List Cond := u_ws RJ13 TJ13 0
theorem nmJ13 : ∀ a, a < 0 → ∀ b, b < 0 → a ≠ b → (TJ13 a).2.1 ≠ (TJ13 b).2.1 := by decide +kernel
theorem tyJ13_ok : ∀ k, k < 0 → parseFieldDescriptor (TJ13 k).2.2.1 = some (tyJ13 k) := by decide +kernel
abbrev cJ13_bitCount_95d88 : ByteArray := prog_8_method_50_code
def yJ13_bitCount_95d88 : MethodName := ⟨RJ13, "bitCount", "(J)I"⟩
def RJ0 : String := "java/lang/String"
def TJ0 : u_T := fun k => match k with
  | _ => ("", "", "", false)
def tyJ0 : Nat → FieldType := fun k => match k with
  | _ => .int
abbrev wsJ00 : List Cond := u_ws RJ0 TJ0 0
theorem nmJ0 : ∀ a, a < 0 → ∀ b, b < 0 → a ≠ b → (TJ0 a).2.1 ≠ (TJ0 b).2.1 := by decide +kernel
theorem tyJ0_ok : ∀ k, k < 0 → parseFieldDescriptor (TJ0 k).2.2.1 = some (tyJ0 k) := by decide +kernel
def RL : String := "EditGraphLaw"
abbrev cL_insert : ByteArray := method_3_code
def yL_insert : MethodName := ⟨RL, "insert", "(LEditGraph;III[J)I"⟩
abbrev cL_delete : ByteArray := method_4_code
def yL_delete : MethodName := ⟨RL, "delete", "(LEditGraph;II[J)I"⟩
abbrev cL_learn : ByteArray := method_5_code
def yL_learn : MethodName := ⟨RL, "learn", "(LEditGraph;II[J)I"⟩
abbrev cL_learnEvent : ByteArray := method_6_code
def yL_learnEvent : MethodName := ⟨RL, "learnEvent", "(LEditGraph;II[J)I"⟩
abbrev cL_length : ByteArray := method_7_code
def yL_length : MethodName := ⟨RL, "length", "(LEditGraph;I[J)I"⟩
abbrev cL_letterAt : ByteArray := method_8_code
def yL_letterAt : MethodName := ⟨RL, "letterAt", "(LEditGraph;II[J)I"⟩
abbrev cL_letterByList : ByteArray := method_9_code
def yL_letterByList : MethodName := ⟨RL, "letterByList", "(LEditGraph;II[J)I"⟩
abbrev cL_eventAt : ByteArray := method_10_code
def yL_eventAt : MethodName := ⟨RL, "eventAt", "(LEditGraph;II[J)I"⟩
abbrev cL_lengthOf : ByteArray := method_11_code
def yL_lengthOf : MethodName := ⟨RL, "lengthOf", "(LEditGraph;I[J)I"⟩
abbrev cL_letterOf : ByteArray := method_12_code
def yL_letterOf : MethodName := ⟨RL, "letterOf", "(LEditGraph;II[J)I"⟩
abbrev cL_lettersBy : ByteArray := method_13_code
def yL_lettersBy : MethodName := ⟨RL, "lettersBy", "(LEditGraph;II[J)I"⟩
abbrev cL_authorOf : ByteArray := method_14_code
def yL_authorOf : MethodName := ⟨RL, "authorOf", "(LEditGraph;I[J)I"⟩
abbrev cL_parents : ByteArray := method_15_code
def yL_parents : MethodName := ⟨RL, "parents", "(LEditGraph;I[J)I"⟩
abbrev cL_isLater : ByteArray := method_16_code
def yL_isLater : MethodName := ⟨RL, "isLater", "(LEditGraph;II[J)I"⟩
abbrev cL_version : ByteArray := method_17_code
def yL_version : MethodName := ⟨RL, "version", "(LEditGraph;I[J)I"⟩
abbrev cL_heads : ByteArray := method_18_code
def yL_heads : MethodName := ⟨RL, "heads", "(LEditGraph;I[J)I"⟩
abbrev cL_commonHeads : ByteArray := method_19_code
def yL_commonHeads : MethodName := ⟨RL, "commonHeads", "(LEditGraph;II[J)I"⟩
abbrev cL_concurrent : ByteArray := method_20_code
def yL_concurrent : MethodName := ⟨RL, "concurrent", "(LEditGraph;I[J)I"⟩
abbrev cL_critical : ByteArray := method_21_code
def yL_critical : MethodName := ⟨RL, "critical", "(LEditGraph;I[J)I"⟩
abbrev cL_toReplay : ByteArray := method_22_code
def yL_toReplay : MethodName := ⟨RL, "toReplay", "(LEditGraph;I[J)I"⟩
abbrev cL_runs : ByteArray := method_23_code
def yL_runs : MethodName := ⟨RL, "runs", "(LEditGraph;I[J)I"⟩
abbrev cL_law : ByteArray := code
def yL_law : MethodName := ⟨RL, "law", "([I)Z"⟩
def wsX0_init : List Cond := .code yX0_init cX0_init 1 none :: ([.methodLink RX0 1 objectInit, .instanceMethod objectInit, .code objectInit ⟨#[0xb1]⟩ 1 none, .fieldLink RX0 7 "EditGraph" "eventCount" "I", .arrayClass .int, .fieldLink RX0 13 "EditGraph" "makers" "[I", .fieldLink RX0 17 "EditGraph" "letters" "[I", .fieldLink RX0 20 "EditGraph" "targets" "[I", .arrayClass .long, .fieldLink RX0 23 "EditGraph" "parentSets" "[J", .fieldLink RX0 27 "EditGraph" "ancestorSets" "[J", .fieldLink RX0 30 "EditGraph" "laterSets" "[J", .fieldLink RX0 33 "EditGraph" "knownSets" "[J", .fieldLink RX0 36 "EditGraph" "firstAtBeginning" "I", .fieldLink RX0 39 "EditGraph" "firstHanging" "[I", .fieldLink RX0 42 "EditGraph" "nextBeside" "[I", .fieldLink RX0 45 "EditGraph" "textEvents" "[I", .fieldLink RX0 48 "EditGraph" "waiting" "[I", .fieldLink RX0 51 "EditGraph" "behind" "[I"] ++ wsX00)
def wsX0_checkAuthor : List Cond := .code yX0_checkAuthor cX0_checkAuthor 2 none :: ([.classLink RX0 126 "java/lang/IndexOutOfBoundsException", .initialized "java/lang/IndexOutOfBoundsException"] ++ (vx_atS RX0 130 "java/lang/IndexOutOfBoundsException" ["java/lang/RuntimeException", "java/lang/Exception"]).filter goodWord)
def wsX0_only : List Cond := .code yX0_only cX0_only 1 (some .long) :: ([])
def wsX0_has : List Cond := .code yX0_has cX0_has 3 (some .boolean) :: ([.methodLink RX0 143 yX0_only, .static yX0_only, .initialized RX0, .code yX0_only cX0_only 1 (some .long)])
def wsX0_isInsert : List Cond := .code yX0_isInsert cX0_isInsert 2 (some .boolean) :: ([.fieldLink RX0 17 "EditGraph" "letters" "[I"] ++ wsX00)
def wsX0_standingIn : List Cond := .code yX0_standingIn cX0_standingIn 8 (some .long) :: ([.fieldLink RX0 7 "EditGraph" "eventCount" "I", .fieldLink RX0 20 "EditGraph" "targets" "[I", .constantLong RX0 112 (-1), .methodLink RX0 101 yX0_has, .static yX0_has, .initialized RX0, .code yX0_has cX0_has 3 (some .boolean), .methodLink RX0 143 yX0_only, .static yX0_only, .code yX0_only cX0_only 1 (some .long), .methodLink RX0 146 yX0_isInsert, .instanceMethod yX0_isInsert, .selects RX0 yX0_isInsert yX0_isInsert, .code yX0_isInsert cX0_isInsert 2 (some .boolean), .fieldLink RX0 17 "EditGraph" "letters" "[I"] ++ wsX00)
def wsX0_isEvent : List Cond := .code yX0_isEvent cX0_isEvent 2 (some .boolean) :: ([.fieldLink RX0 7 "EditGraph" "eventCount" "I"] ++ wsX00)
def wsX0_putWaiting : List Cond := .code yX0_putWaiting cX0_putWaiting 3 (some .int) :: ([.fieldLink RX0 48 "EditGraph" "waiting" "[I", .methodLink RX0 131 yX0_isEvent, .instanceMethod yX0_isEvent, .selects RX0 yX0_isEvent yX0_isEvent, .initialized RX0, .code yX0_isEvent cX0_isEvent 2 (some .boolean), .fieldLink RX0 7 "EditGraph" "eventCount" "I"] ++ wsX00)
def wsX0_putText : List Cond := .code yX0_putText cX0_putText 5 (some .int) :: ([.fieldLink RX0 45 "EditGraph" "textEvents" "[I", .methodLink RX0 101 yX0_has, .static yX0_has, .initialized RX0, .code yX0_has cX0_has 3 (some .boolean), .methodLink RX0 143 yX0_only, .static yX0_only, .code yX0_only cX0_only 1 (some .long)] ++ wsX00)
def wsX0_findText_r1 : List Cond := [Cond.fieldLink RX0 36 "EditGraph" "firstAtBeginning" "I", Cond.fieldLink RX0 48 "EditGraph" "waiting" "[I", Cond.fieldLink RX0 42 "EditGraph" "nextBeside" "[I", Cond.fieldLink RX0 39 "EditGraph" "firstHanging" "[I", Cond.methodLink RX0 153 yX0_standingIn, Cond.instanceMethod yX0_standingIn, Cond.selects RX0 yX0_standingIn yX0_standingIn, Cond.initialized RX0, Cond.code yX0_standingIn cX0_standingIn 8 (some .long), Cond.fieldLink RX0 7 "EditGraph" "eventCount" "I", Cond.fieldLink RX0 20 "EditGraph" "targets" "[I", Cond.constantLong RX0 112 (-1), Cond.methodLink RX0 101 yX0_has, Cond.static yX0_has, Cond.code yX0_has cX0_has 3 (some .boolean), Cond.methodLink RX0 143 yX0_only, Cond.static yX0_only, Cond.code yX0_only cX0_only 1 (some .long), Cond.methodLink RX0 146 yX0_isInsert, Cond.instanceMethod yX0_isInsert, Cond.selects RX0 yX0_isInsert yX0_isInsert, Cond.code yX0_isInsert cX0_isInsert 2 (some .boolean), Cond.fieldLink RX0 17 "EditGraph" "letters" "[I", Cond.methodLink RX0 156 yX0_putWaiting]
def wsX0_findText_r2 : List Cond := [Cond.instanceMethod yX0_putWaiting, Cond.selects RX0 yX0_putWaiting yX0_putWaiting, Cond.code yX0_putWaiting cX0_putWaiting 3 (some .int), Cond.methodLink RX0 131 yX0_isEvent, Cond.instanceMethod yX0_isEvent, Cond.selects RX0 yX0_isEvent yX0_isEvent, Cond.code yX0_isEvent cX0_isEvent 2 (some .boolean), Cond.methodLink RX0 160 yX0_putText, Cond.instanceMethod yX0_putText, Cond.selects RX0 yX0_putText yX0_putText, Cond.code yX0_putText cX0_putText 5 (some .int), Cond.fieldLink RX0 45 "EditGraph" "textEvents" "[I"]
def wsX0_findText : List Cond := .code yX0_findText cX0_findText 9 (some .int) :: ((wsX0_findText_r1 ++ wsX0_findText_r2) ++ wsX00)
def wsX0_checkPlace : List Cond := .code yX0_checkPlace cX0_checkPlace 3 none :: ([.classLink RX0 126 "java/lang/IndexOutOfBoundsException", .initialized "java/lang/IndexOutOfBoundsException"] ++ (vx_atS RX0 130 "java/lang/IndexOutOfBoundsException" ["java/lang/RuntimeException", "java/lang/Exception"]).filter goodWord)
def wsX0_checkRoom : List Cond := .code yX0_checkRoom cX0_checkRoom 1 none :: ([.classLink RX0 138 "java/lang/IllegalStateException", .initialized "java/lang/IllegalStateException", .fieldLink RX0 7 "EditGraph" "eventCount" "I"] ++ wsX00 ++ (vx_atS RX0 142 "java/lang/IllegalStateException" ["java/lang/RuntimeException", "java/lang/Exception"]).filter goodWord)
def wsX0_headsOf : List Cond := .code yX0_headsOf cX0_headsOf 6 (some .long) :: ([.fieldLink RX0 7 "EditGraph" "eventCount" "I", .fieldLink RX0 23 "EditGraph" "parentSets" "[J", .constantLong RX0 112 (-1), .methodLink RX0 101 yX0_has, .static yX0_has, .initialized RX0, .code yX0_has cX0_has 3 (some .boolean), .methodLink RX0 143 yX0_only, .static yX0_only, .code yX0_only cX0_only 1 (some .long)] ++ wsX00)
def wsX0_markLater : List Cond := .code yX0_markLater cX0_markLater 5 none :: ([.fieldLink RX0 7 "EditGraph" "eventCount" "I", .fieldLink RX0 30 "EditGraph" "laterSets" "[J", .methodLink RX0 101 yX0_has, .static yX0_has, .initialized RX0, .code yX0_has cX0_has 3 (some .boolean), .methodLink RX0 143 yX0_only, .static yX0_only, .code yX0_only cX0_only 1 (some .long)] ++ wsX00)
def wsX0_addEvent : List Cond := .code yX0_addEvent cX0_addEvent 7 (some .int) :: ([.fieldLink RX0 7 "EditGraph" "eventCount" "I", .fieldLink RX0 33 "EditGraph" "knownSets" "[J", .fieldLink RX0 13 "EditGraph" "makers" "[I", .fieldLink RX0 17 "EditGraph" "letters" "[I", .fieldLink RX0 20 "EditGraph" "targets" "[I", .fieldLink RX0 23 "EditGraph" "parentSets" "[J", .fieldLink RX0 27 "EditGraph" "ancestorSets" "[J", .methodLink RX0 105 yX0_headsOf, .instanceMethod yX0_headsOf, .selects RX0 yX0_headsOf yX0_headsOf, .initialized RX0, .code yX0_headsOf cX0_headsOf 6 (some .long), .constantLong RX0 112 (-1), .methodLink RX0 101 yX0_has, .static yX0_has, .code yX0_has cX0_has 3 (some .boolean), .methodLink RX0 143 yX0_only, .static yX0_only, .code yX0_only cX0_only 1 (some .long), .methodLink RX0 149 yX0_markLater, .instanceMethod yX0_markLater, .selects RX0 yX0_markLater yX0_markLater, .code yX0_markLater cX0_markLater 5 none, .fieldLink RX0 30 "EditGraph" "laterSets" "[J"] ++ wsX00)
def wsX0_hangLetter : List Cond := .code yX0_hangLetter cX0_hangLetter 3 none :: ([.fieldLink RX0 39 "EditGraph" "firstHanging" "[I", .fieldLink RX0 42 "EditGraph" "nextBeside" "[I", .fieldLink RX0 36 "EditGraph" "firstAtBeginning" "I", .methodLink RX0 131 yX0_isEvent, .instanceMethod yX0_isEvent, .selects RX0 yX0_isEvent yX0_isEvent, .initialized RX0, .code yX0_isEvent cX0_isEvent 2 (some .boolean), .fieldLink RX0 7 "EditGraph" "eventCount" "I"] ++ wsX00)
def wsX0_insert_r1 : List Cond := [Cond.classLink RX0 66 "java/lang/IllegalArgumentException", Cond.initialized "java/lang/IllegalArgumentException", Cond.fieldLink RX0 33 "EditGraph" "knownSets" "[J", Cond.fieldLink RX0 45 "EditGraph" "textEvents" "[I", Cond.methodLink RX0 54 yX0_checkAuthor, Cond.instanceMethod yX0_checkAuthor, Cond.selects RX0 yX0_checkAuthor yX0_checkAuthor, Cond.initialized RX0, Cond.code yX0_checkAuthor cX0_checkAuthor 2 none, Cond.classLink RX0 126 "java/lang/IndexOutOfBoundsException", Cond.initialized "java/lang/IndexOutOfBoundsException", Cond.methodLink RX0 58 yX0_findText, Cond.instanceMethod yX0_findText, Cond.selects RX0 yX0_findText yX0_findText, Cond.code yX0_findText cX0_findText 9 (some .int), Cond.fieldLink RX0 36 "EditGraph" "firstAtBeginning" "I", Cond.fieldLink RX0 48 "EditGraph" "waiting" "[I", Cond.fieldLink RX0 42 "EditGraph" "nextBeside" "[I", Cond.fieldLink RX0 39 "EditGraph" "firstHanging" "[I", Cond.methodLink RX0 153 yX0_standingIn, Cond.instanceMethod yX0_standingIn, Cond.selects RX0 yX0_standingIn yX0_standingIn, Cond.code yX0_standingIn cX0_standingIn 8 (some .long), Cond.fieldLink RX0 7 "EditGraph" "eventCount" "I"]
def wsX0_insert_r2 : List Cond := [Cond.fieldLink RX0 20 "EditGraph" "targets" "[I", Cond.constantLong RX0 112 (-1), Cond.methodLink RX0 101 yX0_has, Cond.static yX0_has, Cond.code yX0_has cX0_has 3 (some .boolean), Cond.methodLink RX0 143 yX0_only, Cond.static yX0_only, Cond.code yX0_only cX0_only 1 (some .long), Cond.methodLink RX0 146 yX0_isInsert, Cond.instanceMethod yX0_isInsert, Cond.selects RX0 yX0_isInsert yX0_isInsert, Cond.code yX0_isInsert cX0_isInsert 2 (some .boolean), Cond.fieldLink RX0 17 "EditGraph" "letters" "[I", Cond.methodLink RX0 156 yX0_putWaiting, Cond.instanceMethod yX0_putWaiting, Cond.selects RX0 yX0_putWaiting yX0_putWaiting, Cond.code yX0_putWaiting cX0_putWaiting 3 (some .int), Cond.methodLink RX0 131 yX0_isEvent, Cond.instanceMethod yX0_isEvent, Cond.selects RX0 yX0_isEvent yX0_isEvent, Cond.code yX0_isEvent cX0_isEvent 2 (some .boolean), Cond.methodLink RX0 160 yX0_putText, Cond.instanceMethod yX0_putText, Cond.selects RX0 yX0_putText yX0_putText]
def wsX0_insert_r3 : List Cond := [Cond.code yX0_putText cX0_putText 5 (some .int), Cond.methodLink RX0 62 yX0_checkPlace, Cond.instanceMethod yX0_checkPlace, Cond.selects RX0 yX0_checkPlace yX0_checkPlace, Cond.code yX0_checkPlace cX0_checkPlace 3 none, Cond.methodLink RX0 73 yX0_checkRoom, Cond.instanceMethod yX0_checkRoom, Cond.selects RX0 yX0_checkRoom yX0_checkRoom, Cond.code yX0_checkRoom cX0_checkRoom 1 none, Cond.classLink RX0 138 "java/lang/IllegalStateException", Cond.initialized "java/lang/IllegalStateException", Cond.methodLink RX0 76 yX0_addEvent, Cond.instanceMethod yX0_addEvent, Cond.selects RX0 yX0_addEvent yX0_addEvent, Cond.code yX0_addEvent cX0_addEvent 7 (some .int), Cond.fieldLink RX0 13 "EditGraph" "makers" "[I", Cond.fieldLink RX0 23 "EditGraph" "parentSets" "[J", Cond.fieldLink RX0 27 "EditGraph" "ancestorSets" "[J", Cond.methodLink RX0 105 yX0_headsOf, Cond.instanceMethod yX0_headsOf, Cond.selects RX0 yX0_headsOf yX0_headsOf, Cond.code yX0_headsOf cX0_headsOf 6 (some .long), Cond.methodLink RX0 149 yX0_markLater, Cond.instanceMethod yX0_markLater]
def wsX0_insert_r4 : List Cond := [Cond.selects RX0 yX0_markLater yX0_markLater, Cond.code yX0_markLater cX0_markLater 5 none, Cond.fieldLink RX0 30 "EditGraph" "laterSets" "[J", Cond.methodLink RX0 80 yX0_hangLetter, Cond.instanceMethod yX0_hangLetter, Cond.selects RX0 yX0_hangLetter yX0_hangLetter, Cond.code yX0_hangLetter cX0_hangLetter 3 none]
def wsX0_insert : List Cond := .code yX0_insert cX0_insert 7 (some .int) :: ((wsX0_insert_r1 ++ (wsX0_insert_r2 ++ (wsX0_insert_r3 ++ wsX0_insert_r4))) ++ wsX00 ++ (vx_atS RX0 70 "java/lang/IllegalArgumentException" ["java/lang/RuntimeException", "java/lang/Exception"]).filter goodWord ++ (vx_atS RX0 130 "java/lang/IndexOutOfBoundsException" ["java/lang/RuntimeException", "java/lang/Exception"]).filter goodWord ++ (vx_atS RX0 142 "java/lang/IllegalStateException" ["java/lang/RuntimeException", "java/lang/Exception"]).filter goodWord)
def wsX0_delete_r1 : List Cond := [Cond.fieldLink RX0 33 "EditGraph" "knownSets" "[J", Cond.fieldLink RX0 45 "EditGraph" "textEvents" "[I", Cond.methodLink RX0 54 yX0_checkAuthor, Cond.instanceMethod yX0_checkAuthor, Cond.selects RX0 yX0_checkAuthor yX0_checkAuthor, Cond.initialized RX0, Cond.code yX0_checkAuthor cX0_checkAuthor 2 none, Cond.classLink RX0 126 "java/lang/IndexOutOfBoundsException", Cond.initialized "java/lang/IndexOutOfBoundsException", Cond.methodLink RX0 58 yX0_findText, Cond.instanceMethod yX0_findText, Cond.selects RX0 yX0_findText yX0_findText, Cond.code yX0_findText cX0_findText 9 (some .int), Cond.fieldLink RX0 36 "EditGraph" "firstAtBeginning" "I", Cond.fieldLink RX0 48 "EditGraph" "waiting" "[I", Cond.fieldLink RX0 42 "EditGraph" "nextBeside" "[I", Cond.fieldLink RX0 39 "EditGraph" "firstHanging" "[I", Cond.methodLink RX0 153 yX0_standingIn, Cond.instanceMethod yX0_standingIn, Cond.selects RX0 yX0_standingIn yX0_standingIn, Cond.code yX0_standingIn cX0_standingIn 8 (some .long), Cond.fieldLink RX0 7 "EditGraph" "eventCount" "I", Cond.fieldLink RX0 20 "EditGraph" "targets" "[I", Cond.constantLong RX0 112 (-1)]
def wsX0_delete_r2 : List Cond := [Cond.methodLink RX0 101 yX0_has, Cond.static yX0_has, Cond.code yX0_has cX0_has 3 (some .boolean), Cond.methodLink RX0 143 yX0_only, Cond.static yX0_only, Cond.code yX0_only cX0_only 1 (some .long), Cond.methodLink RX0 146 yX0_isInsert, Cond.instanceMethod yX0_isInsert, Cond.selects RX0 yX0_isInsert yX0_isInsert, Cond.code yX0_isInsert cX0_isInsert 2 (some .boolean), Cond.fieldLink RX0 17 "EditGraph" "letters" "[I", Cond.methodLink RX0 156 yX0_putWaiting, Cond.instanceMethod yX0_putWaiting, Cond.selects RX0 yX0_putWaiting yX0_putWaiting, Cond.code yX0_putWaiting cX0_putWaiting 3 (some .int), Cond.methodLink RX0 131 yX0_isEvent, Cond.instanceMethod yX0_isEvent, Cond.selects RX0 yX0_isEvent yX0_isEvent, Cond.code yX0_isEvent cX0_isEvent 2 (some .boolean), Cond.methodLink RX0 160 yX0_putText, Cond.instanceMethod yX0_putText, Cond.selects RX0 yX0_putText yX0_putText, Cond.code yX0_putText cX0_putText 5 (some .int), Cond.methodLink RX0 62 yX0_checkPlace]
def wsX0_delete_r3 : List Cond := [Cond.instanceMethod yX0_checkPlace, Cond.selects RX0 yX0_checkPlace yX0_checkPlace, Cond.code yX0_checkPlace cX0_checkPlace 3 none, Cond.methodLink RX0 73 yX0_checkRoom, Cond.instanceMethod yX0_checkRoom, Cond.selects RX0 yX0_checkRoom yX0_checkRoom, Cond.code yX0_checkRoom cX0_checkRoom 1 none, Cond.classLink RX0 138 "java/lang/IllegalStateException", Cond.initialized "java/lang/IllegalStateException", Cond.methodLink RX0 76 yX0_addEvent, Cond.instanceMethod yX0_addEvent, Cond.selects RX0 yX0_addEvent yX0_addEvent, Cond.code yX0_addEvent cX0_addEvent 7 (some .int), Cond.fieldLink RX0 13 "EditGraph" "makers" "[I", Cond.fieldLink RX0 23 "EditGraph" "parentSets" "[J", Cond.fieldLink RX0 27 "EditGraph" "ancestorSets" "[J", Cond.methodLink RX0 105 yX0_headsOf, Cond.instanceMethod yX0_headsOf, Cond.selects RX0 yX0_headsOf yX0_headsOf, Cond.code yX0_headsOf cX0_headsOf 6 (some .long), Cond.methodLink RX0 149 yX0_markLater, Cond.instanceMethod yX0_markLater, Cond.selects RX0 yX0_markLater yX0_markLater, Cond.code yX0_markLater cX0_markLater 5 none]
def wsX0_delete_r4 : List Cond := [Cond.fieldLink RX0 30 "EditGraph" "laterSets" "[J"]
def wsX0_delete : List Cond := .code yX0_delete cX0_delete 4 (some .int) :: ((wsX0_delete_r1 ++ (wsX0_delete_r2 ++ (wsX0_delete_r3 ++ wsX0_delete_r4))) ++ wsX00 ++ (vx_atS RX0 130 "java/lang/IndexOutOfBoundsException" ["java/lang/RuntimeException", "java/lang/Exception"]).filter goodWord ++ (vx_atS RX0 142 "java/lang/IllegalStateException" ["java/lang/RuntimeException", "java/lang/Exception"]).filter goodWord)
def wsJ13_bitCount_95d88 : List Cond := .code yJ13_bitCount_95d88 cJ13_bitCount_95d88 2 (some .int) :: ([.constantLong RJ13 314 (6148914691236517205), .constantLong RJ13 316 (3689348814741910323), .constantLong RJ13 318 (1085102592571150095)])
def wsX0_addKnown : List Cond := .code yX0_addKnown cX0_addKnown 5 (some .int) :: ([.fieldLink RX0 33 "EditGraph" "knownSets" "[J", .constantLong RX0 112 (-1), .methodLink RX0 114 yJ13_bitCount_95d88, .static yJ13_bitCount_95d88, .initialized RJ13, .code yJ13_bitCount_95d88 cJ13_bitCount_95d88 2 (some .int), .constantLong RJ13 314 (6148914691236517205), .constantLong RJ13 316 (3689348814741910323), .constantLong RJ13 318 (1085102592571150095)] ++ wsX00)
def wsX0_learn : List Cond := .code yX0_learn cX0_learn 3 (some .int) :: ([.fieldLink RX0 33 "EditGraph" "knownSets" "[J", .methodLink RX0 54 yX0_checkAuthor, .instanceMethod yX0_checkAuthor, .selects RX0 yX0_checkAuthor yX0_checkAuthor, .initialized RX0, .code yX0_checkAuthor cX0_checkAuthor 2 none, .classLink RX0 126 "java/lang/IndexOutOfBoundsException", .initialized "java/lang/IndexOutOfBoundsException", .methodLink RX0 83 yX0_addKnown, .instanceMethod yX0_addKnown, .selects RX0 yX0_addKnown yX0_addKnown, .code yX0_addKnown cX0_addKnown 5 (some .int), .constantLong RX0 112 (-1), .methodLink RX0 114 yJ13_bitCount_95d88, .static yJ13_bitCount_95d88, .initialized RJ13, .code yJ13_bitCount_95d88 cJ13_bitCount_95d88 2 (some .int), .constantLong RJ13 314 (6148914691236517205), .constantLong RJ13 316 (3689348814741910323), .constantLong RJ13 318 (1085102592571150095)] ++ wsX00 ++ (vx_atS RX0 130 "java/lang/IndexOutOfBoundsException" ["java/lang/RuntimeException", "java/lang/Exception"]).filter goodWord)
def wsX0_checkEvent : List Cond := .code yX0_checkEvent cX0_checkEvent 2 none :: ([.classLink RX0 126 "java/lang/IndexOutOfBoundsException", .initialized "java/lang/IndexOutOfBoundsException", .methodLink RX0 131 yX0_isEvent, .instanceMethod yX0_isEvent, .selects RX0 yX0_isEvent yX0_isEvent, .initialized RX0, .code yX0_isEvent cX0_isEvent 2 (some .boolean), .fieldLink RX0 7 "EditGraph" "eventCount" "I"] ++ wsX00 ++ (vx_atS RX0 130 "java/lang/IndexOutOfBoundsException" ["java/lang/RuntimeException", "java/lang/Exception"]).filter goodWord)
def wsX0_versionOfEvent : List Cond := .code yX0_versionOfEvent cX0_versionOfEvent 2 (some .long) :: ([.fieldLink RX0 27 "EditGraph" "ancestorSets" "[J", .methodLink RX0 143 yX0_only, .static yX0_only, .initialized RX0, .code yX0_only cX0_only 1 (some .long)] ++ wsX00)
def wsX0_learnEvent_r1 : List Cond := [Cond.methodLink RX0 54 yX0_checkAuthor, Cond.instanceMethod yX0_checkAuthor, Cond.selects RX0 yX0_checkAuthor yX0_checkAuthor, Cond.initialized RX0, Cond.code yX0_checkAuthor cX0_checkAuthor 2 none, Cond.classLink RX0 126 "java/lang/IndexOutOfBoundsException", Cond.initialized "java/lang/IndexOutOfBoundsException", Cond.methodLink RX0 87 yX0_checkEvent, Cond.instanceMethod yX0_checkEvent, Cond.selects RX0 yX0_checkEvent yX0_checkEvent, Cond.code yX0_checkEvent cX0_checkEvent 2 none, Cond.methodLink RX0 131 yX0_isEvent, Cond.instanceMethod yX0_isEvent, Cond.selects RX0 yX0_isEvent yX0_isEvent, Cond.code yX0_isEvent cX0_isEvent 2 (some .boolean), Cond.fieldLink RX0 7 "EditGraph" "eventCount" "I", Cond.methodLink RX0 90 yX0_versionOfEvent, Cond.instanceMethod yX0_versionOfEvent, Cond.selects RX0 yX0_versionOfEvent yX0_versionOfEvent, Cond.code yX0_versionOfEvent cX0_versionOfEvent 2 (some .long), Cond.fieldLink RX0 27 "EditGraph" "ancestorSets" "[J", Cond.methodLink RX0 143 yX0_only, Cond.static yX0_only, Cond.code yX0_only cX0_only 1 (some .long)]
def wsX0_learnEvent_r2 : List Cond := [Cond.methodLink RX0 83 yX0_addKnown, Cond.instanceMethod yX0_addKnown, Cond.selects RX0 yX0_addKnown yX0_addKnown, Cond.code yX0_addKnown cX0_addKnown 5 (some .int), Cond.fieldLink RX0 33 "EditGraph" "knownSets" "[J", Cond.constantLong RX0 112 (-1), Cond.methodLink RX0 114 yJ13_bitCount_95d88, Cond.static yJ13_bitCount_95d88, Cond.initialized RJ13, Cond.code yJ13_bitCount_95d88 cJ13_bitCount_95d88 2 (some .int), Cond.constantLong RJ13 314 (6148914691236517205), Cond.constantLong RJ13 316 (3689348814741910323), Cond.constantLong RJ13 318 (1085102592571150095)]
def wsX0_learnEvent : List Cond := .code yX0_learnEvent cX0_learnEvent 3 (some .int) :: ((wsX0_learnEvent_r1 ++ wsX0_learnEvent_r2) ++ wsX00 ++ (vx_atS RX0 130 "java/lang/IndexOutOfBoundsException" ["java/lang/RuntimeException", "java/lang/Exception"]).filter goodWord)
def wsX0_events : List Cond := .code yX0_events cX0_events 1 (some .int) :: ([.fieldLink RX0 7 "EditGraph" "eventCount" "I"] ++ wsX00)
def wsX0_length_r1 : List Cond := [Cond.fieldLink RX0 33 "EditGraph" "knownSets" "[J", Cond.methodLink RX0 54 yX0_checkAuthor, Cond.instanceMethod yX0_checkAuthor, Cond.selects RX0 yX0_checkAuthor yX0_checkAuthor, Cond.initialized RX0, Cond.code yX0_checkAuthor cX0_checkAuthor 2 none, Cond.classLink RX0 126 "java/lang/IndexOutOfBoundsException", Cond.initialized "java/lang/IndexOutOfBoundsException", Cond.methodLink RX0 58 yX0_findText, Cond.instanceMethod yX0_findText, Cond.selects RX0 yX0_findText yX0_findText, Cond.code yX0_findText cX0_findText 9 (some .int), Cond.fieldLink RX0 36 "EditGraph" "firstAtBeginning" "I", Cond.fieldLink RX0 48 "EditGraph" "waiting" "[I", Cond.fieldLink RX0 42 "EditGraph" "nextBeside" "[I", Cond.fieldLink RX0 39 "EditGraph" "firstHanging" "[I", Cond.methodLink RX0 153 yX0_standingIn, Cond.instanceMethod yX0_standingIn, Cond.selects RX0 yX0_standingIn yX0_standingIn, Cond.code yX0_standingIn cX0_standingIn 8 (some .long), Cond.fieldLink RX0 7 "EditGraph" "eventCount" "I", Cond.fieldLink RX0 20 "EditGraph" "targets" "[I", Cond.constantLong RX0 112 (-1), Cond.methodLink RX0 101 yX0_has]
def wsX0_length_r2 : List Cond := [Cond.static yX0_has, Cond.code yX0_has cX0_has 3 (some .boolean), Cond.methodLink RX0 143 yX0_only, Cond.static yX0_only, Cond.code yX0_only cX0_only 1 (some .long), Cond.methodLink RX0 146 yX0_isInsert, Cond.instanceMethod yX0_isInsert, Cond.selects RX0 yX0_isInsert yX0_isInsert, Cond.code yX0_isInsert cX0_isInsert 2 (some .boolean), Cond.fieldLink RX0 17 "EditGraph" "letters" "[I", Cond.methodLink RX0 156 yX0_putWaiting, Cond.instanceMethod yX0_putWaiting, Cond.selects RX0 yX0_putWaiting yX0_putWaiting, Cond.code yX0_putWaiting cX0_putWaiting 3 (some .int), Cond.methodLink RX0 131 yX0_isEvent, Cond.instanceMethod yX0_isEvent, Cond.selects RX0 yX0_isEvent yX0_isEvent, Cond.code yX0_isEvent cX0_isEvent 2 (some .boolean), Cond.methodLink RX0 160 yX0_putText, Cond.instanceMethod yX0_putText, Cond.selects RX0 yX0_putText yX0_putText, Cond.code yX0_putText cX0_putText 5 (some .int), Cond.fieldLink RX0 45 "EditGraph" "textEvents" "[I"]
def wsX0_length : List Cond := .code yX0_length cX0_length 2 (some .int) :: ((wsX0_length_r1 ++ wsX0_length_r2) ++ wsX00 ++ (vx_atS RX0 130 "java/lang/IndexOutOfBoundsException" ["java/lang/RuntimeException", "java/lang/Exception"]).filter goodWord)
def wsX0_eventInText_r1 : List Cond := [Cond.fieldLink RX0 45 "EditGraph" "textEvents" "[I", Cond.methodLink RX0 58 yX0_findText, Cond.instanceMethod yX0_findText, Cond.selects RX0 yX0_findText yX0_findText, Cond.initialized RX0, Cond.code yX0_findText cX0_findText 9 (some .int), Cond.fieldLink RX0 36 "EditGraph" "firstAtBeginning" "I", Cond.fieldLink RX0 48 "EditGraph" "waiting" "[I", Cond.fieldLink RX0 42 "EditGraph" "nextBeside" "[I", Cond.fieldLink RX0 39 "EditGraph" "firstHanging" "[I", Cond.methodLink RX0 153 yX0_standingIn, Cond.instanceMethod yX0_standingIn, Cond.selects RX0 yX0_standingIn yX0_standingIn, Cond.code yX0_standingIn cX0_standingIn 8 (some .long), Cond.fieldLink RX0 7 "EditGraph" "eventCount" "I", Cond.fieldLink RX0 20 "EditGraph" "targets" "[I", Cond.constantLong RX0 112 (-1), Cond.methodLink RX0 101 yX0_has, Cond.static yX0_has, Cond.code yX0_has cX0_has 3 (some .boolean), Cond.methodLink RX0 143 yX0_only, Cond.static yX0_only, Cond.code yX0_only cX0_only 1 (some .long), Cond.methodLink RX0 146 yX0_isInsert]
def wsX0_eventInText_r2 : List Cond := [Cond.instanceMethod yX0_isInsert, Cond.selects RX0 yX0_isInsert yX0_isInsert, Cond.code yX0_isInsert cX0_isInsert 2 (some .boolean), Cond.fieldLink RX0 17 "EditGraph" "letters" "[I", Cond.methodLink RX0 156 yX0_putWaiting, Cond.instanceMethod yX0_putWaiting, Cond.selects RX0 yX0_putWaiting yX0_putWaiting, Cond.code yX0_putWaiting cX0_putWaiting 3 (some .int), Cond.methodLink RX0 131 yX0_isEvent, Cond.instanceMethod yX0_isEvent, Cond.selects RX0 yX0_isEvent yX0_isEvent, Cond.code yX0_isEvent cX0_isEvent 2 (some .boolean), Cond.methodLink RX0 160 yX0_putText, Cond.instanceMethod yX0_putText, Cond.selects RX0 yX0_putText yX0_putText, Cond.code yX0_putText cX0_putText 5 (some .int), Cond.methodLink RX0 62 yX0_checkPlace, Cond.instanceMethod yX0_checkPlace, Cond.selects RX0 yX0_checkPlace yX0_checkPlace, Cond.code yX0_checkPlace cX0_checkPlace 3 none, Cond.classLink RX0 126 "java/lang/IndexOutOfBoundsException", Cond.initialized "java/lang/IndexOutOfBoundsException"]
def wsX0_eventInText : List Cond := .code yX0_eventInText cX0_eventInText 5 (some .int) :: ((wsX0_eventInText_r1 ++ wsX0_eventInText_r2) ++ wsX00 ++ (vx_atS RX0 130 "java/lang/IndexOutOfBoundsException" ["java/lang/RuntimeException", "java/lang/Exception"]).filter goodWord)
def wsX0_letterAt_r1 : List Cond := [Cond.fieldLink RX0 17 "EditGraph" "letters" "[I", Cond.fieldLink RX0 33 "EditGraph" "knownSets" "[J", Cond.methodLink RX0 54 yX0_checkAuthor, Cond.instanceMethod yX0_checkAuthor, Cond.selects RX0 yX0_checkAuthor yX0_checkAuthor, Cond.initialized RX0, Cond.code yX0_checkAuthor cX0_checkAuthor 2 none, Cond.classLink RX0 126 "java/lang/IndexOutOfBoundsException", Cond.initialized "java/lang/IndexOutOfBoundsException", Cond.methodLink RX0 94 yX0_eventInText, Cond.instanceMethod yX0_eventInText, Cond.selects RX0 yX0_eventInText yX0_eventInText, Cond.code yX0_eventInText cX0_eventInText 5 (some .int), Cond.fieldLink RX0 45 "EditGraph" "textEvents" "[I", Cond.methodLink RX0 58 yX0_findText, Cond.instanceMethod yX0_findText, Cond.selects RX0 yX0_findText yX0_findText, Cond.code yX0_findText cX0_findText 9 (some .int), Cond.fieldLink RX0 36 "EditGraph" "firstAtBeginning" "I", Cond.fieldLink RX0 48 "EditGraph" "waiting" "[I", Cond.fieldLink RX0 42 "EditGraph" "nextBeside" "[I", Cond.fieldLink RX0 39 "EditGraph" "firstHanging" "[I", Cond.methodLink RX0 153 yX0_standingIn, Cond.instanceMethod yX0_standingIn]
def wsX0_letterAt_r2 : List Cond := [Cond.selects RX0 yX0_standingIn yX0_standingIn, Cond.code yX0_standingIn cX0_standingIn 8 (some .long), Cond.fieldLink RX0 7 "EditGraph" "eventCount" "I", Cond.fieldLink RX0 20 "EditGraph" "targets" "[I", Cond.constantLong RX0 112 (-1), Cond.methodLink RX0 101 yX0_has, Cond.static yX0_has, Cond.code yX0_has cX0_has 3 (some .boolean), Cond.methodLink RX0 143 yX0_only, Cond.static yX0_only, Cond.code yX0_only cX0_only 1 (some .long), Cond.methodLink RX0 146 yX0_isInsert, Cond.instanceMethod yX0_isInsert, Cond.selects RX0 yX0_isInsert yX0_isInsert, Cond.code yX0_isInsert cX0_isInsert 2 (some .boolean), Cond.methodLink RX0 156 yX0_putWaiting, Cond.instanceMethod yX0_putWaiting, Cond.selects RX0 yX0_putWaiting yX0_putWaiting, Cond.code yX0_putWaiting cX0_putWaiting 3 (some .int), Cond.methodLink RX0 131 yX0_isEvent, Cond.instanceMethod yX0_isEvent, Cond.selects RX0 yX0_isEvent yX0_isEvent, Cond.code yX0_isEvent cX0_isEvent 2 (some .boolean), Cond.methodLink RX0 160 yX0_putText]
def wsX0_letterAt_r3 : List Cond := [Cond.instanceMethod yX0_putText, Cond.selects RX0 yX0_putText yX0_putText, Cond.code yX0_putText cX0_putText 5 (some .int), Cond.methodLink RX0 62 yX0_checkPlace, Cond.instanceMethod yX0_checkPlace, Cond.selects RX0 yX0_checkPlace yX0_checkPlace, Cond.code yX0_checkPlace cX0_checkPlace 3 none]
def wsX0_letterAt : List Cond := .code yX0_letterAt cX0_letterAt 3 (some .int) :: ((wsX0_letterAt_r1 ++ (wsX0_letterAt_r2 ++ wsX0_letterAt_r3)) ++ wsX00 ++ (vx_atS RX0 130 "java/lang/IndexOutOfBoundsException" ["java/lang/RuntimeException", "java/lang/Exception"]).filter goodWord)
def wsX0_layList : List Cond := .code yX0_layList cX0_layList 6 (some .int) :: ([.fieldLink RX0 7 "EditGraph" "eventCount" "I", .fieldLink RX0 20 "EditGraph" "targets" "[I", .fieldLink RX0 51 "EditGraph" "behind" "[I", .methodLink RX0 101 yX0_has, .static yX0_has, .initialized RX0, .code yX0_has cX0_has 3 (some .boolean), .methodLink RX0 143 yX0_only, .static yX0_only, .code yX0_only cX0_only 1 (some .long), .methodLink RX0 146 yX0_isInsert, .instanceMethod yX0_isInsert, .selects RX0 yX0_isInsert yX0_isInsert, .code yX0_isInsert cX0_isInsert 2 (some .boolean), .fieldLink RX0 17 "EditGraph" "letters" "[I", .methodLink RX0 131 yX0_isEvent, .instanceMethod yX0_isEvent, .selects RX0 yX0_isEvent yX0_isEvent, .code yX0_isEvent cX0_isEvent 2 (some .boolean)] ++ wsX00)
def wsX0_findTextByList_r1 : List Cond := [Cond.fieldLink RX0 51 "EditGraph" "behind" "[I", Cond.methodLink RX0 153 yX0_standingIn, Cond.instanceMethod yX0_standingIn, Cond.selects RX0 yX0_standingIn yX0_standingIn, Cond.initialized RX0, Cond.code yX0_standingIn cX0_standingIn 8 (some .long), Cond.fieldLink RX0 7 "EditGraph" "eventCount" "I", Cond.fieldLink RX0 20 "EditGraph" "targets" "[I", Cond.constantLong RX0 112 (-1), Cond.methodLink RX0 101 yX0_has, Cond.static yX0_has, Cond.code yX0_has cX0_has 3 (some .boolean), Cond.methodLink RX0 143 yX0_only, Cond.static yX0_only, Cond.code yX0_only cX0_only 1 (some .long), Cond.methodLink RX0 146 yX0_isInsert, Cond.instanceMethod yX0_isInsert, Cond.selects RX0 yX0_isInsert yX0_isInsert, Cond.code yX0_isInsert cX0_isInsert 2 (some .boolean), Cond.fieldLink RX0 17 "EditGraph" "letters" "[I", Cond.methodLink RX0 164 yX0_layList, Cond.instanceMethod yX0_layList, Cond.selects RX0 yX0_layList yX0_layList, Cond.code yX0_layList cX0_layList 6 (some .int)]
def wsX0_findTextByList_r2 : List Cond := [Cond.methodLink RX0 131 yX0_isEvent, Cond.instanceMethod yX0_isEvent, Cond.selects RX0 yX0_isEvent yX0_isEvent, Cond.code yX0_isEvent cX0_isEvent 2 (some .boolean), Cond.methodLink RX0 160 yX0_putText, Cond.instanceMethod yX0_putText, Cond.selects RX0 yX0_putText yX0_putText, Cond.code yX0_putText cX0_putText 5 (some .int), Cond.fieldLink RX0 45 "EditGraph" "textEvents" "[I"]
def wsX0_findTextByList : List Cond := .code yX0_findTextByList cX0_findTextByList 8 (some .int) :: ((wsX0_findTextByList_r1 ++ wsX0_findTextByList_r2) ++ wsX00)
def wsX0_letterByList_r1 : List Cond := [Cond.fieldLink RX0 33 "EditGraph" "knownSets" "[J", Cond.fieldLink RX0 17 "EditGraph" "letters" "[I", Cond.fieldLink RX0 45 "EditGraph" "textEvents" "[I", Cond.methodLink RX0 54 yX0_checkAuthor, Cond.instanceMethod yX0_checkAuthor, Cond.selects RX0 yX0_checkAuthor yX0_checkAuthor, Cond.initialized RX0, Cond.code yX0_checkAuthor cX0_checkAuthor 2 none, Cond.classLink RX0 126 "java/lang/IndexOutOfBoundsException", Cond.initialized "java/lang/IndexOutOfBoundsException", Cond.methodLink RX0 98 yX0_findTextByList, Cond.instanceMethod yX0_findTextByList, Cond.selects RX0 yX0_findTextByList yX0_findTextByList, Cond.code yX0_findTextByList cX0_findTextByList 8 (some .int), Cond.fieldLink RX0 51 "EditGraph" "behind" "[I", Cond.methodLink RX0 153 yX0_standingIn, Cond.instanceMethod yX0_standingIn, Cond.selects RX0 yX0_standingIn yX0_standingIn, Cond.code yX0_standingIn cX0_standingIn 8 (some .long), Cond.fieldLink RX0 7 "EditGraph" "eventCount" "I", Cond.fieldLink RX0 20 "EditGraph" "targets" "[I", Cond.constantLong RX0 112 (-1), Cond.methodLink RX0 101 yX0_has, Cond.static yX0_has]
def wsX0_letterByList_r2 : List Cond := [Cond.code yX0_has cX0_has 3 (some .boolean), Cond.methodLink RX0 143 yX0_only, Cond.static yX0_only, Cond.code yX0_only cX0_only 1 (some .long), Cond.methodLink RX0 146 yX0_isInsert, Cond.instanceMethod yX0_isInsert, Cond.selects RX0 yX0_isInsert yX0_isInsert, Cond.code yX0_isInsert cX0_isInsert 2 (some .boolean), Cond.methodLink RX0 164 yX0_layList, Cond.instanceMethod yX0_layList, Cond.selects RX0 yX0_layList yX0_layList, Cond.code yX0_layList cX0_layList 6 (some .int), Cond.methodLink RX0 131 yX0_isEvent, Cond.instanceMethod yX0_isEvent, Cond.selects RX0 yX0_isEvent yX0_isEvent, Cond.code yX0_isEvent cX0_isEvent 2 (some .boolean), Cond.methodLink RX0 160 yX0_putText, Cond.instanceMethod yX0_putText, Cond.selects RX0 yX0_putText yX0_putText, Cond.code yX0_putText cX0_putText 5 (some .int), Cond.methodLink RX0 62 yX0_checkPlace, Cond.instanceMethod yX0_checkPlace, Cond.selects RX0 yX0_checkPlace yX0_checkPlace, Cond.code yX0_checkPlace cX0_checkPlace 3 none]
def wsX0_letterByList : List Cond := .code yX0_letterByList cX0_letterByList 4 (some .int) :: ((wsX0_letterByList_r1 ++ wsX0_letterByList_r2) ++ wsX00 ++ (vx_atS RX0 130 "java/lang/IndexOutOfBoundsException" ["java/lang/RuntimeException", "java/lang/Exception"]).filter goodWord)
def wsX0_eventAt_r1 : List Cond := [Cond.fieldLink RX0 33 "EditGraph" "knownSets" "[J", Cond.methodLink RX0 54 yX0_checkAuthor, Cond.instanceMethod yX0_checkAuthor, Cond.selects RX0 yX0_checkAuthor yX0_checkAuthor, Cond.initialized RX0, Cond.code yX0_checkAuthor cX0_checkAuthor 2 none, Cond.classLink RX0 126 "java/lang/IndexOutOfBoundsException", Cond.initialized "java/lang/IndexOutOfBoundsException", Cond.methodLink RX0 94 yX0_eventInText, Cond.instanceMethod yX0_eventInText, Cond.selects RX0 yX0_eventInText yX0_eventInText, Cond.code yX0_eventInText cX0_eventInText 5 (some .int), Cond.fieldLink RX0 45 "EditGraph" "textEvents" "[I", Cond.methodLink RX0 58 yX0_findText, Cond.instanceMethod yX0_findText, Cond.selects RX0 yX0_findText yX0_findText, Cond.code yX0_findText cX0_findText 9 (some .int), Cond.fieldLink RX0 36 "EditGraph" "firstAtBeginning" "I", Cond.fieldLink RX0 48 "EditGraph" "waiting" "[I", Cond.fieldLink RX0 42 "EditGraph" "nextBeside" "[I", Cond.fieldLink RX0 39 "EditGraph" "firstHanging" "[I", Cond.methodLink RX0 153 yX0_standingIn, Cond.instanceMethod yX0_standingIn, Cond.selects RX0 yX0_standingIn yX0_standingIn]
def wsX0_eventAt_r2 : List Cond := [Cond.code yX0_standingIn cX0_standingIn 8 (some .long), Cond.fieldLink RX0 7 "EditGraph" "eventCount" "I", Cond.fieldLink RX0 20 "EditGraph" "targets" "[I", Cond.constantLong RX0 112 (-1), Cond.methodLink RX0 101 yX0_has, Cond.static yX0_has, Cond.code yX0_has cX0_has 3 (some .boolean), Cond.methodLink RX0 143 yX0_only, Cond.static yX0_only, Cond.code yX0_only cX0_only 1 (some .long), Cond.methodLink RX0 146 yX0_isInsert, Cond.instanceMethod yX0_isInsert, Cond.selects RX0 yX0_isInsert yX0_isInsert, Cond.code yX0_isInsert cX0_isInsert 2 (some .boolean), Cond.fieldLink RX0 17 "EditGraph" "letters" "[I", Cond.methodLink RX0 156 yX0_putWaiting, Cond.instanceMethod yX0_putWaiting, Cond.selects RX0 yX0_putWaiting yX0_putWaiting, Cond.code yX0_putWaiting cX0_putWaiting 3 (some .int), Cond.methodLink RX0 131 yX0_isEvent, Cond.instanceMethod yX0_isEvent, Cond.selects RX0 yX0_isEvent yX0_isEvent, Cond.code yX0_isEvent cX0_isEvent 2 (some .boolean), Cond.methodLink RX0 160 yX0_putText]
def wsX0_eventAt_r3 : List Cond := [Cond.instanceMethod yX0_putText, Cond.selects RX0 yX0_putText yX0_putText, Cond.code yX0_putText cX0_putText 5 (some .int), Cond.methodLink RX0 62 yX0_checkPlace, Cond.instanceMethod yX0_checkPlace, Cond.selects RX0 yX0_checkPlace yX0_checkPlace, Cond.code yX0_checkPlace cX0_checkPlace 3 none]
def wsX0_eventAt : List Cond := .code yX0_eventAt cX0_eventAt 3 (some .int) :: ((wsX0_eventAt_r1 ++ (wsX0_eventAt_r2 ++ wsX0_eventAt_r3)) ++ wsX00 ++ (vx_atS RX0 130 "java/lang/IndexOutOfBoundsException" ["java/lang/RuntimeException", "java/lang/Exception"]).filter goodWord)
def wsX0_lengthOf_r1 : List Cond := [Cond.methodLink RX0 87 yX0_checkEvent, Cond.instanceMethod yX0_checkEvent, Cond.selects RX0 yX0_checkEvent yX0_checkEvent, Cond.initialized RX0, Cond.code yX0_checkEvent cX0_checkEvent 2 none, Cond.classLink RX0 126 "java/lang/IndexOutOfBoundsException", Cond.initialized "java/lang/IndexOutOfBoundsException", Cond.methodLink RX0 131 yX0_isEvent, Cond.instanceMethod yX0_isEvent, Cond.selects RX0 yX0_isEvent yX0_isEvent, Cond.code yX0_isEvent cX0_isEvent 2 (some .boolean), Cond.fieldLink RX0 7 "EditGraph" "eventCount" "I", Cond.methodLink RX0 90 yX0_versionOfEvent, Cond.instanceMethod yX0_versionOfEvent, Cond.selects RX0 yX0_versionOfEvent yX0_versionOfEvent, Cond.code yX0_versionOfEvent cX0_versionOfEvent 2 (some .long), Cond.fieldLink RX0 27 "EditGraph" "ancestorSets" "[J", Cond.methodLink RX0 143 yX0_only, Cond.static yX0_only, Cond.code yX0_only cX0_only 1 (some .long), Cond.methodLink RX0 58 yX0_findText, Cond.instanceMethod yX0_findText, Cond.selects RX0 yX0_findText yX0_findText, Cond.code yX0_findText cX0_findText 9 (some .int)]
def wsX0_lengthOf_r2 : List Cond := [Cond.fieldLink RX0 36 "EditGraph" "firstAtBeginning" "I", Cond.fieldLink RX0 48 "EditGraph" "waiting" "[I", Cond.fieldLink RX0 42 "EditGraph" "nextBeside" "[I", Cond.fieldLink RX0 39 "EditGraph" "firstHanging" "[I", Cond.methodLink RX0 153 yX0_standingIn, Cond.instanceMethod yX0_standingIn, Cond.selects RX0 yX0_standingIn yX0_standingIn, Cond.code yX0_standingIn cX0_standingIn 8 (some .long), Cond.fieldLink RX0 20 "EditGraph" "targets" "[I", Cond.constantLong RX0 112 (-1), Cond.methodLink RX0 101 yX0_has, Cond.static yX0_has, Cond.code yX0_has cX0_has 3 (some .boolean), Cond.methodLink RX0 146 yX0_isInsert, Cond.instanceMethod yX0_isInsert, Cond.selects RX0 yX0_isInsert yX0_isInsert, Cond.code yX0_isInsert cX0_isInsert 2 (some .boolean), Cond.fieldLink RX0 17 "EditGraph" "letters" "[I", Cond.methodLink RX0 156 yX0_putWaiting, Cond.instanceMethod yX0_putWaiting, Cond.selects RX0 yX0_putWaiting yX0_putWaiting, Cond.code yX0_putWaiting cX0_putWaiting 3 (some .int), Cond.methodLink RX0 160 yX0_putText, Cond.instanceMethod yX0_putText]
def wsX0_lengthOf_r3 : List Cond := [Cond.selects RX0 yX0_putText yX0_putText, Cond.code yX0_putText cX0_putText 5 (some .int), Cond.fieldLink RX0 45 "EditGraph" "textEvents" "[I"]
def wsX0_lengthOf : List Cond := .code yX0_lengthOf cX0_lengthOf 2 (some .int) :: ((wsX0_lengthOf_r1 ++ (wsX0_lengthOf_r2 ++ wsX0_lengthOf_r3)) ++ wsX00 ++ (vx_atS RX0 130 "java/lang/IndexOutOfBoundsException" ["java/lang/RuntimeException", "java/lang/Exception"]).filter goodWord)
def wsX0_letterOf_r1 : List Cond := [Cond.fieldLink RX0 17 "EditGraph" "letters" "[I", Cond.methodLink RX0 87 yX0_checkEvent, Cond.instanceMethod yX0_checkEvent, Cond.selects RX0 yX0_checkEvent yX0_checkEvent, Cond.initialized RX0, Cond.code yX0_checkEvent cX0_checkEvent 2 none, Cond.classLink RX0 126 "java/lang/IndexOutOfBoundsException", Cond.initialized "java/lang/IndexOutOfBoundsException", Cond.methodLink RX0 131 yX0_isEvent, Cond.instanceMethod yX0_isEvent, Cond.selects RX0 yX0_isEvent yX0_isEvent, Cond.code yX0_isEvent cX0_isEvent 2 (some .boolean), Cond.fieldLink RX0 7 "EditGraph" "eventCount" "I", Cond.methodLink RX0 90 yX0_versionOfEvent, Cond.instanceMethod yX0_versionOfEvent, Cond.selects RX0 yX0_versionOfEvent yX0_versionOfEvent, Cond.code yX0_versionOfEvent cX0_versionOfEvent 2 (some .long), Cond.fieldLink RX0 27 "EditGraph" "ancestorSets" "[J", Cond.methodLink RX0 143 yX0_only, Cond.static yX0_only, Cond.code yX0_only cX0_only 1 (some .long), Cond.methodLink RX0 94 yX0_eventInText, Cond.instanceMethod yX0_eventInText, Cond.selects RX0 yX0_eventInText yX0_eventInText]
def wsX0_letterOf_r2 : List Cond := [Cond.code yX0_eventInText cX0_eventInText 5 (some .int), Cond.fieldLink RX0 45 "EditGraph" "textEvents" "[I", Cond.methodLink RX0 58 yX0_findText, Cond.instanceMethod yX0_findText, Cond.selects RX0 yX0_findText yX0_findText, Cond.code yX0_findText cX0_findText 9 (some .int), Cond.fieldLink RX0 36 "EditGraph" "firstAtBeginning" "I", Cond.fieldLink RX0 48 "EditGraph" "waiting" "[I", Cond.fieldLink RX0 42 "EditGraph" "nextBeside" "[I", Cond.fieldLink RX0 39 "EditGraph" "firstHanging" "[I", Cond.methodLink RX0 153 yX0_standingIn, Cond.instanceMethod yX0_standingIn, Cond.selects RX0 yX0_standingIn yX0_standingIn, Cond.code yX0_standingIn cX0_standingIn 8 (some .long), Cond.fieldLink RX0 20 "EditGraph" "targets" "[I", Cond.constantLong RX0 112 (-1), Cond.methodLink RX0 101 yX0_has, Cond.static yX0_has, Cond.code yX0_has cX0_has 3 (some .boolean), Cond.methodLink RX0 146 yX0_isInsert, Cond.instanceMethod yX0_isInsert, Cond.selects RX0 yX0_isInsert yX0_isInsert, Cond.code yX0_isInsert cX0_isInsert 2 (some .boolean), Cond.methodLink RX0 156 yX0_putWaiting]
def wsX0_letterOf_r3 : List Cond := [Cond.instanceMethod yX0_putWaiting, Cond.selects RX0 yX0_putWaiting yX0_putWaiting, Cond.code yX0_putWaiting cX0_putWaiting 3 (some .int), Cond.methodLink RX0 160 yX0_putText, Cond.instanceMethod yX0_putText, Cond.selects RX0 yX0_putText yX0_putText, Cond.code yX0_putText cX0_putText 5 (some .int), Cond.methodLink RX0 62 yX0_checkPlace, Cond.instanceMethod yX0_checkPlace, Cond.selects RX0 yX0_checkPlace yX0_checkPlace, Cond.code yX0_checkPlace cX0_checkPlace 3 none]
def wsX0_letterOf : List Cond := .code yX0_letterOf cX0_letterOf 3 (some .int) :: ((wsX0_letterOf_r1 ++ (wsX0_letterOf_r2 ++ wsX0_letterOf_r3)) ++ wsX00 ++ (vx_atS RX0 130 "java/lang/IndexOutOfBoundsException" ["java/lang/RuntimeException", "java/lang/Exception"]).filter goodWord)
def wsX0_lettersBy_r1 : List Cond := [Cond.fieldLink RX0 33 "EditGraph" "knownSets" "[J", Cond.fieldLink RX0 13 "EditGraph" "makers" "[I", Cond.fieldLink RX0 45 "EditGraph" "textEvents" "[I", Cond.methodLink RX0 54 yX0_checkAuthor, Cond.instanceMethod yX0_checkAuthor, Cond.selects RX0 yX0_checkAuthor yX0_checkAuthor, Cond.initialized RX0, Cond.code yX0_checkAuthor cX0_checkAuthor 2 none, Cond.classLink RX0 126 "java/lang/IndexOutOfBoundsException", Cond.initialized "java/lang/IndexOutOfBoundsException", Cond.methodLink RX0 58 yX0_findText, Cond.instanceMethod yX0_findText, Cond.selects RX0 yX0_findText yX0_findText, Cond.code yX0_findText cX0_findText 9 (some .int), Cond.fieldLink RX0 36 "EditGraph" "firstAtBeginning" "I", Cond.fieldLink RX0 48 "EditGraph" "waiting" "[I", Cond.fieldLink RX0 42 "EditGraph" "nextBeside" "[I", Cond.fieldLink RX0 39 "EditGraph" "firstHanging" "[I", Cond.methodLink RX0 153 yX0_standingIn, Cond.instanceMethod yX0_standingIn, Cond.selects RX0 yX0_standingIn yX0_standingIn, Cond.code yX0_standingIn cX0_standingIn 8 (some .long), Cond.fieldLink RX0 7 "EditGraph" "eventCount" "I", Cond.fieldLink RX0 20 "EditGraph" "targets" "[I"]
def wsX0_lettersBy_r2 : List Cond := [Cond.constantLong RX0 112 (-1), Cond.methodLink RX0 101 yX0_has, Cond.static yX0_has, Cond.code yX0_has cX0_has 3 (some .boolean), Cond.methodLink RX0 143 yX0_only, Cond.static yX0_only, Cond.code yX0_only cX0_only 1 (some .long), Cond.methodLink RX0 146 yX0_isInsert, Cond.instanceMethod yX0_isInsert, Cond.selects RX0 yX0_isInsert yX0_isInsert, Cond.code yX0_isInsert cX0_isInsert 2 (some .boolean), Cond.fieldLink RX0 17 "EditGraph" "letters" "[I", Cond.methodLink RX0 156 yX0_putWaiting, Cond.instanceMethod yX0_putWaiting, Cond.selects RX0 yX0_putWaiting yX0_putWaiting, Cond.code yX0_putWaiting cX0_putWaiting 3 (some .int), Cond.methodLink RX0 131 yX0_isEvent, Cond.instanceMethod yX0_isEvent, Cond.selects RX0 yX0_isEvent yX0_isEvent, Cond.code yX0_isEvent cX0_isEvent 2 (some .boolean), Cond.methodLink RX0 160 yX0_putText, Cond.instanceMethod yX0_putText, Cond.selects RX0 yX0_putText yX0_putText, Cond.code yX0_putText cX0_putText 5 (some .int)]
def wsX0_lettersBy : List Cond := .code yX0_lettersBy cX0_lettersBy 6 (some .int) :: ((wsX0_lettersBy_r1 ++ wsX0_lettersBy_r2) ++ wsX00 ++ (vx_atS RX0 130 "java/lang/IndexOutOfBoundsException" ["java/lang/RuntimeException", "java/lang/Exception"]).filter goodWord)
def wsX0_authorOf : List Cond := .code yX0_authorOf cX0_authorOf 2 (some .int) :: ([.fieldLink RX0 13 "EditGraph" "makers" "[I", .methodLink RX0 87 yX0_checkEvent, .instanceMethod yX0_checkEvent, .selects RX0 yX0_checkEvent yX0_checkEvent, .initialized RX0, .code yX0_checkEvent cX0_checkEvent 2 none, .classLink RX0 126 "java/lang/IndexOutOfBoundsException", .initialized "java/lang/IndexOutOfBoundsException", .methodLink RX0 131 yX0_isEvent, .instanceMethod yX0_isEvent, .selects RX0 yX0_isEvent yX0_isEvent, .code yX0_isEvent cX0_isEvent 2 (some .boolean), .fieldLink RX0 7 "EditGraph" "eventCount" "I"] ++ wsX00 ++ (vx_atS RX0 130 "java/lang/IndexOutOfBoundsException" ["java/lang/RuntimeException", "java/lang/Exception"]).filter goodWord)
def wsX0_parents : List Cond := .code yX0_parents cX0_parents 2 (some .long) :: ([.fieldLink RX0 23 "EditGraph" "parentSets" "[J", .methodLink RX0 87 yX0_checkEvent, .instanceMethod yX0_checkEvent, .selects RX0 yX0_checkEvent yX0_checkEvent, .initialized RX0, .code yX0_checkEvent cX0_checkEvent 2 none, .classLink RX0 126 "java/lang/IndexOutOfBoundsException", .initialized "java/lang/IndexOutOfBoundsException", .methodLink RX0 131 yX0_isEvent, .instanceMethod yX0_isEvent, .selects RX0 yX0_isEvent yX0_isEvent, .code yX0_isEvent cX0_isEvent 2 (some .boolean), .fieldLink RX0 7 "EditGraph" "eventCount" "I"] ++ wsX00 ++ (vx_atS RX0 130 "java/lang/IndexOutOfBoundsException" ["java/lang/RuntimeException", "java/lang/Exception"]).filter goodWord)
def wsX0_isLater : List Cond := .code yX0_isLater cX0_isLater 3 (some .boolean) :: ([.fieldLink RX0 27 "EditGraph" "ancestorSets" "[J", .methodLink RX0 87 yX0_checkEvent, .instanceMethod yX0_checkEvent, .selects RX0 yX0_checkEvent yX0_checkEvent, .initialized RX0, .code yX0_checkEvent cX0_checkEvent 2 none, .classLink RX0 126 "java/lang/IndexOutOfBoundsException", .initialized "java/lang/IndexOutOfBoundsException", .methodLink RX0 131 yX0_isEvent, .instanceMethod yX0_isEvent, .selects RX0 yX0_isEvent yX0_isEvent, .code yX0_isEvent cX0_isEvent 2 (some .boolean), .fieldLink RX0 7 "EditGraph" "eventCount" "I", .methodLink RX0 101 yX0_has, .static yX0_has, .code yX0_has cX0_has 3 (some .boolean), .methodLink RX0 143 yX0_only, .static yX0_only, .code yX0_only cX0_only 1 (some .long)] ++ wsX00 ++ (vx_atS RX0 130 "java/lang/IndexOutOfBoundsException" ["java/lang/RuntimeException", "java/lang/Exception"]).filter goodWord)
def wsX0_version : List Cond := .code yX0_version cX0_version 2 (some .long) :: ([.fieldLink RX0 33 "EditGraph" "knownSets" "[J", .methodLink RX0 54 yX0_checkAuthor, .instanceMethod yX0_checkAuthor, .selects RX0 yX0_checkAuthor yX0_checkAuthor, .initialized RX0, .code yX0_checkAuthor cX0_checkAuthor 2 none, .classLink RX0 126 "java/lang/IndexOutOfBoundsException", .initialized "java/lang/IndexOutOfBoundsException"] ++ wsX00 ++ (vx_atS RX0 130 "java/lang/IndexOutOfBoundsException" ["java/lang/RuntimeException", "java/lang/Exception"]).filter goodWord)
def wsX0_heads : List Cond := .code yX0_heads cX0_heads 2 (some .long) :: ([.fieldLink RX0 33 "EditGraph" "knownSets" "[J", .methodLink RX0 54 yX0_checkAuthor, .instanceMethod yX0_checkAuthor, .selects RX0 yX0_checkAuthor yX0_checkAuthor, .initialized RX0, .code yX0_checkAuthor cX0_checkAuthor 2 none, .classLink RX0 126 "java/lang/IndexOutOfBoundsException", .initialized "java/lang/IndexOutOfBoundsException", .methodLink RX0 105 yX0_headsOf, .instanceMethod yX0_headsOf, .selects RX0 yX0_headsOf yX0_headsOf, .code yX0_headsOf cX0_headsOf 6 (some .long), .fieldLink RX0 7 "EditGraph" "eventCount" "I", .fieldLink RX0 23 "EditGraph" "parentSets" "[J", .constantLong RX0 112 (-1), .methodLink RX0 101 yX0_has, .static yX0_has, .code yX0_has cX0_has 3 (some .boolean), .methodLink RX0 143 yX0_only, .static yX0_only, .code yX0_only cX0_only 1 (some .long)] ++ wsX00 ++ (vx_atS RX0 130 "java/lang/IndexOutOfBoundsException" ["java/lang/RuntimeException", "java/lang/Exception"]).filter goodWord)
def wsX0_commonHeads : List Cond := .code yX0_commonHeads cX0_commonHeads 3 (some .long) :: ([.fieldLink RX0 33 "EditGraph" "knownSets" "[J", .methodLink RX0 54 yX0_checkAuthor, .instanceMethod yX0_checkAuthor, .selects RX0 yX0_checkAuthor yX0_checkAuthor, .initialized RX0, .code yX0_checkAuthor cX0_checkAuthor 2 none, .classLink RX0 126 "java/lang/IndexOutOfBoundsException", .initialized "java/lang/IndexOutOfBoundsException", .methodLink RX0 105 yX0_headsOf, .instanceMethod yX0_headsOf, .selects RX0 yX0_headsOf yX0_headsOf, .code yX0_headsOf cX0_headsOf 6 (some .long), .fieldLink RX0 7 "EditGraph" "eventCount" "I", .fieldLink RX0 23 "EditGraph" "parentSets" "[J", .constantLong RX0 112 (-1), .methodLink RX0 101 yX0_has, .static yX0_has, .code yX0_has cX0_has 3 (some .boolean), .methodLink RX0 143 yX0_only, .static yX0_only, .code yX0_only cX0_only 1 (some .long)] ++ wsX00 ++ (vx_atS RX0 130 "java/lang/IndexOutOfBoundsException" ["java/lang/RuntimeException", "java/lang/Exception"]).filter goodWord)
def wsX0_relatedTo : List Cond := .code yX0_relatedTo cX0_relatedTo 2 (some .long) :: ([.fieldLink RX0 30 "EditGraph" "laterSets" "[J", .methodLink RX0 90 yX0_versionOfEvent, .instanceMethod yX0_versionOfEvent, .selects RX0 yX0_versionOfEvent yX0_versionOfEvent, .initialized RX0, .code yX0_versionOfEvent cX0_versionOfEvent 2 (some .long), .fieldLink RX0 27 "EditGraph" "ancestorSets" "[J", .methodLink RX0 143 yX0_only, .static yX0_only, .code yX0_only cX0_only 1 (some .long)] ++ wsX00)
def wsX0_concurrent_r1 : List Cond := [Cond.fieldLink RX0 33 "EditGraph" "knownSets" "[J", Cond.fieldLink RX0 7 "EditGraph" "eventCount" "I", Cond.constantLong RX0 112 (-1), Cond.methodLink RX0 54 yX0_checkAuthor, Cond.instanceMethod yX0_checkAuthor, Cond.selects RX0 yX0_checkAuthor yX0_checkAuthor, Cond.initialized RX0, Cond.code yX0_checkAuthor cX0_checkAuthor 2 none, Cond.classLink RX0 126 "java/lang/IndexOutOfBoundsException", Cond.initialized "java/lang/IndexOutOfBoundsException", Cond.methodLink RX0 101 yX0_has, Cond.static yX0_has, Cond.code yX0_has cX0_has 3 (some .boolean), Cond.methodLink RX0 143 yX0_only, Cond.static yX0_only, Cond.code yX0_only cX0_only 1 (some .long), Cond.methodLink RX0 109 yX0_relatedTo, Cond.instanceMethod yX0_relatedTo, Cond.selects RX0 yX0_relatedTo yX0_relatedTo, Cond.code yX0_relatedTo cX0_relatedTo 2 (some .long), Cond.fieldLink RX0 30 "EditGraph" "laterSets" "[J", Cond.methodLink RX0 90 yX0_versionOfEvent, Cond.instanceMethod yX0_versionOfEvent, Cond.selects RX0 yX0_versionOfEvent yX0_versionOfEvent]
def wsX0_concurrent_r2 : List Cond := [Cond.code yX0_versionOfEvent cX0_versionOfEvent 2 (some .long), Cond.fieldLink RX0 27 "EditGraph" "ancestorSets" "[J", Cond.methodLink RX0 114 yJ13_bitCount_95d88, Cond.static yJ13_bitCount_95d88, Cond.initialized RJ13, Cond.code yJ13_bitCount_95d88 cJ13_bitCount_95d88 2 (some .int), Cond.constantLong RJ13 314 (6148914691236517205), Cond.constantLong RJ13 316 (3689348814741910323), Cond.constantLong RJ13 318 (1085102592571150095)]
def wsX0_concurrent : List Cond := .code yX0_concurrent cX0_concurrent 6 (some .int) :: ((wsX0_concurrent_r1 ++ wsX0_concurrent_r2) ++ wsX00 ++ (vx_atS RX0 130 "java/lang/IndexOutOfBoundsException" ["java/lang/RuntimeException", "java/lang/Exception"]).filter goodWord)
def wsX0_criticalOf : List Cond := .code yX0_criticalOf cX0_criticalOf 6 (some .long) :: ([.fieldLink RX0 7 "EditGraph" "eventCount" "I", .constantLong RX0 112 (-1), .methodLink RX0 101 yX0_has, .static yX0_has, .initialized RX0, .code yX0_has cX0_has 3 (some .boolean), .methodLink RX0 143 yX0_only, .static yX0_only, .code yX0_only cX0_only 1 (some .long), .methodLink RX0 109 yX0_relatedTo, .instanceMethod yX0_relatedTo, .selects RX0 yX0_relatedTo yX0_relatedTo, .code yX0_relatedTo cX0_relatedTo 2 (some .long), .fieldLink RX0 30 "EditGraph" "laterSets" "[J", .methodLink RX0 90 yX0_versionOfEvent, .instanceMethod yX0_versionOfEvent, .selects RX0 yX0_versionOfEvent yX0_versionOfEvent, .code yX0_versionOfEvent cX0_versionOfEvent 2 (some .long), .fieldLink RX0 27 "EditGraph" "ancestorSets" "[J"] ++ wsX00)
def wsX0_critical_r1 : List Cond := [Cond.fieldLink RX0 33 "EditGraph" "knownSets" "[J", Cond.methodLink RX0 54 yX0_checkAuthor, Cond.instanceMethod yX0_checkAuthor, Cond.selects RX0 yX0_checkAuthor yX0_checkAuthor, Cond.initialized RX0, Cond.code yX0_checkAuthor cX0_checkAuthor 2 none, Cond.classLink RX0 126 "java/lang/IndexOutOfBoundsException", Cond.initialized "java/lang/IndexOutOfBoundsException", Cond.methodLink RX0 119 yX0_criticalOf, Cond.instanceMethod yX0_criticalOf, Cond.selects RX0 yX0_criticalOf yX0_criticalOf, Cond.code yX0_criticalOf cX0_criticalOf 6 (some .long), Cond.fieldLink RX0 7 "EditGraph" "eventCount" "I", Cond.constantLong RX0 112 (-1), Cond.methodLink RX0 101 yX0_has, Cond.static yX0_has, Cond.code yX0_has cX0_has 3 (some .boolean), Cond.methodLink RX0 143 yX0_only, Cond.static yX0_only, Cond.code yX0_only cX0_only 1 (some .long), Cond.methodLink RX0 109 yX0_relatedTo, Cond.instanceMethod yX0_relatedTo, Cond.selects RX0 yX0_relatedTo yX0_relatedTo, Cond.code yX0_relatedTo cX0_relatedTo 2 (some .long)]
def wsX0_critical_r2 : List Cond := [Cond.fieldLink RX0 30 "EditGraph" "laterSets" "[J", Cond.methodLink RX0 90 yX0_versionOfEvent, Cond.instanceMethod yX0_versionOfEvent, Cond.selects RX0 yX0_versionOfEvent yX0_versionOfEvent, Cond.code yX0_versionOfEvent cX0_versionOfEvent 2 (some .long), Cond.fieldLink RX0 27 "EditGraph" "ancestorSets" "[J"]
def wsX0_critical : List Cond := .code yX0_critical cX0_critical 2 (some .long) :: ((wsX0_critical_r1 ++ wsX0_critical_r2) ++ wsX00 ++ (vx_atS RX0 130 "java/lang/IndexOutOfBoundsException" ["java/lang/RuntimeException", "java/lang/Exception"]).filter goodWord)
def wsX0_toReplay_r1 : List Cond := [Cond.fieldLink RX0 33 "EditGraph" "knownSets" "[J", Cond.fieldLink RX0 7 "EditGraph" "eventCount" "I", Cond.constantLong RX0 112 (-1), Cond.methodLink RX0 54 yX0_checkAuthor, Cond.instanceMethod yX0_checkAuthor, Cond.selects RX0 yX0_checkAuthor yX0_checkAuthor, Cond.initialized RX0, Cond.code yX0_checkAuthor cX0_checkAuthor 2 none, Cond.classLink RX0 126 "java/lang/IndexOutOfBoundsException", Cond.initialized "java/lang/IndexOutOfBoundsException", Cond.methodLink RX0 119 yX0_criticalOf, Cond.instanceMethod yX0_criticalOf, Cond.selects RX0 yX0_criticalOf yX0_criticalOf, Cond.code yX0_criticalOf cX0_criticalOf 6 (some .long), Cond.methodLink RX0 101 yX0_has, Cond.static yX0_has, Cond.code yX0_has cX0_has 3 (some .boolean), Cond.methodLink RX0 143 yX0_only, Cond.static yX0_only, Cond.code yX0_only cX0_only 1 (some .long), Cond.methodLink RX0 109 yX0_relatedTo, Cond.instanceMethod yX0_relatedTo, Cond.selects RX0 yX0_relatedTo yX0_relatedTo, Cond.code yX0_relatedTo cX0_relatedTo 2 (some .long)]
def wsX0_toReplay_r2 : List Cond := [Cond.fieldLink RX0 30 "EditGraph" "laterSets" "[J", Cond.methodLink RX0 90 yX0_versionOfEvent, Cond.instanceMethod yX0_versionOfEvent, Cond.selects RX0 yX0_versionOfEvent yX0_versionOfEvent, Cond.code yX0_versionOfEvent cX0_versionOfEvent 2 (some .long), Cond.fieldLink RX0 27 "EditGraph" "ancestorSets" "[J", Cond.methodLink RX0 114 yJ13_bitCount_95d88, Cond.static yJ13_bitCount_95d88, Cond.initialized RJ13, Cond.code yJ13_bitCount_95d88 cJ13_bitCount_95d88 2 (some .int), Cond.constantLong RJ13 314 (6148914691236517205), Cond.constantLong RJ13 316 (3689348814741910323), Cond.constantLong RJ13 318 (1085102592571150095)]
def wsX0_toReplay : List Cond := .code yX0_toReplay cX0_toReplay 9 (some .int) :: ((wsX0_toReplay_r1 ++ wsX0_toReplay_r2) ++ wsX00 ++ (vx_atS RX0 130 "java/lang/IndexOutOfBoundsException" ["java/lang/RuntimeException", "java/lang/Exception"]).filter goodWord)
def wsX0_continuesRun : List Cond := .code yX0_continuesRun cX0_continuesRun 3 (some .boolean) :: ([.fieldLink RX0 20 "EditGraph" "targets" "[I", .fieldLink RX0 23 "EditGraph" "parentSets" "[J", .fieldLink RX0 13 "EditGraph" "makers" "[I", .methodLink RX0 146 yX0_isInsert, .instanceMethod yX0_isInsert, .selects RX0 yX0_isInsert yX0_isInsert, .initialized RX0, .code yX0_isInsert cX0_isInsert 2 (some .boolean), .fieldLink RX0 17 "EditGraph" "letters" "[I", .methodLink RX0 131 yX0_isEvent, .instanceMethod yX0_isEvent, .selects RX0 yX0_isEvent yX0_isEvent, .code yX0_isEvent cX0_isEvent 2 (some .boolean), .fieldLink RX0 7 "EditGraph" "eventCount" "I", .methodLink RX0 143 yX0_only, .static yX0_only, .code yX0_only cX0_only 1 (some .long)] ++ wsX00)
def wsX0_runs_r1 : List Cond := [Cond.fieldLink RX0 33 "EditGraph" "knownSets" "[J", Cond.fieldLink RX0 7 "EditGraph" "eventCount" "I", Cond.methodLink RX0 54 yX0_checkAuthor, Cond.instanceMethod yX0_checkAuthor, Cond.selects RX0 yX0_checkAuthor yX0_checkAuthor, Cond.initialized RX0, Cond.code yX0_checkAuthor cX0_checkAuthor 2 none, Cond.classLink RX0 126 "java/lang/IndexOutOfBoundsException", Cond.initialized "java/lang/IndexOutOfBoundsException", Cond.methodLink RX0 101 yX0_has, Cond.static yX0_has, Cond.code yX0_has cX0_has 3 (some .boolean), Cond.methodLink RX0 143 yX0_only, Cond.static yX0_only, Cond.code yX0_only cX0_only 1 (some .long), Cond.methodLink RX0 122 yX0_continuesRun, Cond.instanceMethod yX0_continuesRun, Cond.selects RX0 yX0_continuesRun yX0_continuesRun, Cond.code yX0_continuesRun cX0_continuesRun 3 (some .boolean), Cond.fieldLink RX0 20 "EditGraph" "targets" "[I", Cond.fieldLink RX0 23 "EditGraph" "parentSets" "[J", Cond.fieldLink RX0 13 "EditGraph" "makers" "[I", Cond.methodLink RX0 146 yX0_isInsert, Cond.instanceMethod yX0_isInsert]
def wsX0_runs_r2 : List Cond := [Cond.selects RX0 yX0_isInsert yX0_isInsert, Cond.code yX0_isInsert cX0_isInsert 2 (some .boolean), Cond.fieldLink RX0 17 "EditGraph" "letters" "[I", Cond.methodLink RX0 131 yX0_isEvent, Cond.instanceMethod yX0_isEvent, Cond.selects RX0 yX0_isEvent yX0_isEvent, Cond.code yX0_isEvent cX0_isEvent 2 (some .boolean)]
def wsX0_runs : List Cond := .code yX0_runs cX0_runs 6 (some .int) :: ((wsX0_runs_r1 ++ wsX0_runs_r2) ++ wsX00 ++ (vx_atS RX0 130 "java/lang/IndexOutOfBoundsException" ["java/lang/RuntimeException", "java/lang/Exception"]).filter goodWord)
def wsX1_init : List Cond := .code yX1_init cX1_init 1 none :: ([.methodLink RX1 1 objectInit, .instanceMethod objectInit, .code objectInit ⟨#[0xb1]⟩ 1 none, .arrayClass .int, .fieldLink RX1 7 "EditGraphModel" "authorOf" "[I", .fieldLink RX1 13 "EditGraphModel" "letter" "[I", .fieldLink RX1 16 "EditGraphModel" "at" "[I", .arrayClass .long, .fieldLink RX1 19 "EditGraphModel" "parents" "[J", .fieldLink RX1 23 "EditGraphModel" "ancestors" "[J", .fieldLink RX1 26 "EditGraphModel" "knows" "[J", .fieldLink RX1 29 "EditGraphModel" "row" "[I"] ++ wsX10)
def wsX1_thrown : List Cond := .code yX1_thrown cX1_thrown 1 (some .int) :: ([.fieldLink RX1 32 "EditGraphModel" "thrown" "I"] ++ wsX10)
def wsX1_in : List Cond := .code yX1_in cX1_in 3 (some .boolean) :: ([])
def wsX1_asked : List Cond := .code yX1_asked cX1_asked 2 (some .boolean) :: ([.fieldLink RX1 32 "EditGraphModel" "thrown" "I"] ++ wsX10)
def wsX1_asked_ : List Cond := .code yX1_asked_ cX1_asked_ 3 (some .boolean) :: ([.fieldLink RX1 32 "EditGraphModel" "thrown" "I"] ++ wsX10)
def wsX1_asked__ : List Cond := .code yX1_asked__ cX1_asked__ 4 (some .boolean) :: ([.fieldLink RX1 32 "EditGraphModel" "thrown" "I"] ++ wsX10)
def wsX1_isAuthor : List Cond := .code yX1_isAuthor cX1_isAuthor 1 (some .boolean) :: ([.methodLink RX1 36 yX1_in, .static yX1_in, .initialized RX1, .code yX1_in cX1_in 3 (some .boolean)])
def wsX1_isEvent : List Cond := .code yX1_isEvent cX1_isEvent 2 (some .boolean) :: ([.fieldLink RX1 40 "EditGraphModel" "events" "I", .methodLink RX1 36 yX1_in, .static yX1_in, .initialized RX1, .code yX1_in cX1_in 3 (some .boolean)] ++ wsX10)
def wsX1_has : List Cond := .code yX1_has cX1_has 3 (some .boolean) :: ([])
def wsX1_count : List Cond := .code yX1_count cX1_count 5 (some .int) :: ([.fieldLink RX1 40 "EditGraphModel" "events" "I", .methodLink RX1 43 yX1_has, .static yX1_has, .initialized RX1, .code yX1_has cX1_has 3 (some .boolean)] ++ wsX10)
def wsX1_versionOf : List Cond := .code yX1_versionOf cX1_versionOf 2 (some .long) :: ([.fieldLink RX1 23 "EditGraphModel" "ancestors" "[J"] ++ wsX10)
def wsX1_headsOf : List Cond := .code yX1_headsOf cX1_headsOf 6 (some .long) :: ([.fieldLink RX1 40 "EditGraphModel" "events" "I", .fieldLink RX1 19 "EditGraphModel" "parents" "[J", .constantLong RX1 47 (-1), .methodLink RX1 43 yX1_has, .static yX1_has, .initialized RX1, .code yX1_has cX1_has 3 (some .boolean)] ++ wsX10)
def wsX1_reads : List Cond := .code yX1_reads cX1_reads 7 none :: ([.fieldLink RX1 49 "EditGraphModel" "length" "I", .fieldLink RX1 40 "EditGraphModel" "events" "I", .fieldLink RX1 13 "EditGraphModel" "letter" "[I", .fieldLink RX1 16 "EditGraphModel" "at" "[I", .fieldLink RX1 29 "EditGraphModel" "row" "[I", .methodLink RX1 43 yX1_has, .static yX1_has, .initialized RX1, .code yX1_has cX1_has 3 (some .boolean)] ++ wsX10)
def wsX1_makes : List Cond := .code yX1_makes cX1_makes 4 (some .int) :: ([.fieldLink RX1 7 "EditGraphModel" "authorOf" "[I", .fieldLink RX1 40 "EditGraphModel" "events" "I", .fieldLink RX1 13 "EditGraphModel" "letter" "[I", .fieldLink RX1 16 "EditGraphModel" "at" "[I", .fieldLink RX1 19 "EditGraphModel" "parents" "[J", .fieldLink RX1 26 "EditGraphModel" "knows" "[J", .fieldLink RX1 23 "EditGraphModel" "ancestors" "[J", .methodLink RX1 52 yX1_headsOf, .instanceMethod yX1_headsOf, .selects RX1 yX1_headsOf yX1_headsOf, .initialized RX1, .code yX1_headsOf cX1_headsOf 6 (some .long), .constantLong RX1 47 (-1), .methodLink RX1 43 yX1_has, .static yX1_has, .code yX1_has cX1_has 3 (some .boolean)] ++ wsX10)
def wsX1_looks : List Cond := .code yX1_looks cX1_looks 3 (some .boolean) :: ([.fieldLink RX1 26 "EditGraphModel" "knows" "[J", .methodLink RX1 56 yX1_isAuthor, .static yX1_isAuthor, .initialized RX1, .code yX1_isAuthor cX1_isAuthor 1 (some .boolean), .methodLink RX1 36 yX1_in, .static yX1_in, .code yX1_in cX1_in 3 (some .boolean), .methodLink RX1 60 yX1_reads, .instanceMethod yX1_reads, .selects RX1 yX1_reads yX1_reads, .code yX1_reads cX1_reads 7 none, .fieldLink RX1 49 "EditGraphModel" "length" "I", .fieldLink RX1 40 "EditGraphModel" "events" "I", .fieldLink RX1 13 "EditGraphModel" "letter" "[I", .fieldLink RX1 16 "EditGraphModel" "at" "[I", .fieldLink RX1 29 "EditGraphModel" "row" "[I", .methodLink RX1 43 yX1_has, .static yX1_has, .code yX1_has cX1_has 3 (some .boolean)] ++ wsX10)
def wsX1_insert_r1 : List Cond := [Cond.fieldLink RX1 49 "EditGraphModel" "length" "I", Cond.fieldLink RX1 40 "EditGraphModel" "events" "I", Cond.fieldLink RX1 29 "EditGraphModel" "row" "[I", Cond.methodLink RX1 64 yX1_looks, Cond.instanceMethod yX1_looks, Cond.selects RX1 yX1_looks yX1_looks, Cond.initialized RX1, Cond.code yX1_looks cX1_looks 3 (some .boolean), Cond.fieldLink RX1 26 "EditGraphModel" "knows" "[J", Cond.methodLink RX1 56 yX1_isAuthor, Cond.static yX1_isAuthor, Cond.code yX1_isAuthor cX1_isAuthor 1 (some .boolean), Cond.methodLink RX1 36 yX1_in, Cond.static yX1_in, Cond.code yX1_in cX1_in 3 (some .boolean), Cond.methodLink RX1 60 yX1_reads, Cond.instanceMethod yX1_reads, Cond.selects RX1 yX1_reads yX1_reads, Cond.code yX1_reads cX1_reads 7 none, Cond.fieldLink RX1 13 "EditGraphModel" "letter" "[I", Cond.fieldLink RX1 16 "EditGraphModel" "at" "[I", Cond.methodLink RX1 43 yX1_has, Cond.static yX1_has, Cond.code yX1_has cX1_has 3 (some .boolean)]
def wsX1_insert_r2 : List Cond := [Cond.methodLink RX1 67 yX1_asked__, Cond.instanceMethod yX1_asked__, Cond.selects RX1 yX1_asked__ yX1_asked__, Cond.code yX1_asked__ cX1_asked__ 4 (some .boolean), Cond.fieldLink RX1 32 "EditGraphModel" "thrown" "I", Cond.methodLink RX1 71 yX1_makes, Cond.instanceMethod yX1_makes, Cond.selects RX1 yX1_makes yX1_makes, Cond.code yX1_makes cX1_makes 4 (some .int), Cond.fieldLink RX1 7 "EditGraphModel" "authorOf" "[I", Cond.fieldLink RX1 19 "EditGraphModel" "parents" "[J", Cond.fieldLink RX1 23 "EditGraphModel" "ancestors" "[J", Cond.methodLink RX1 52 yX1_headsOf, Cond.instanceMethod yX1_headsOf, Cond.selects RX1 yX1_headsOf yX1_headsOf, Cond.code yX1_headsOf cX1_headsOf 6 (some .long), Cond.constantLong RX1 47 (-1)]
def wsX1_insert : List Cond := .code yX1_insert cX1_insert 5 (some .int) :: ((wsX1_insert_r1 ++ wsX1_insert_r2) ++ wsX10)
def wsX1_delete_r1 : List Cond := [Cond.fieldLink RX1 49 "EditGraphModel" "length" "I", Cond.fieldLink RX1 40 "EditGraphModel" "events" "I", Cond.fieldLink RX1 29 "EditGraphModel" "row" "[I", Cond.methodLink RX1 64 yX1_looks, Cond.instanceMethod yX1_looks, Cond.selects RX1 yX1_looks yX1_looks, Cond.initialized RX1, Cond.code yX1_looks cX1_looks 3 (some .boolean), Cond.fieldLink RX1 26 "EditGraphModel" "knows" "[J", Cond.methodLink RX1 56 yX1_isAuthor, Cond.static yX1_isAuthor, Cond.code yX1_isAuthor cX1_isAuthor 1 (some .boolean), Cond.methodLink RX1 36 yX1_in, Cond.static yX1_in, Cond.code yX1_in cX1_in 3 (some .boolean), Cond.methodLink RX1 60 yX1_reads, Cond.instanceMethod yX1_reads, Cond.selects RX1 yX1_reads yX1_reads, Cond.code yX1_reads cX1_reads 7 none, Cond.fieldLink RX1 13 "EditGraphModel" "letter" "[I", Cond.fieldLink RX1 16 "EditGraphModel" "at" "[I", Cond.methodLink RX1 43 yX1_has, Cond.static yX1_has, Cond.code yX1_has cX1_has 3 (some .boolean)]
def wsX1_delete_r2 : List Cond := [Cond.methodLink RX1 75 yX1_asked_, Cond.instanceMethod yX1_asked_, Cond.selects RX1 yX1_asked_ yX1_asked_, Cond.code yX1_asked_ cX1_asked_ 3 (some .boolean), Cond.fieldLink RX1 32 "EditGraphModel" "thrown" "I", Cond.methodLink RX1 71 yX1_makes, Cond.instanceMethod yX1_makes, Cond.selects RX1 yX1_makes yX1_makes, Cond.code yX1_makes cX1_makes 4 (some .int), Cond.fieldLink RX1 7 "EditGraphModel" "authorOf" "[I", Cond.fieldLink RX1 19 "EditGraphModel" "parents" "[J", Cond.fieldLink RX1 23 "EditGraphModel" "ancestors" "[J", Cond.methodLink RX1 52 yX1_headsOf, Cond.instanceMethod yX1_headsOf, Cond.selects RX1 yX1_headsOf yX1_headsOf, Cond.code yX1_headsOf cX1_headsOf 6 (some .long), Cond.constantLong RX1 47 (-1)]
def wsX1_delete : List Cond := .code yX1_delete cX1_delete 4 (some .int) :: ((wsX1_delete_r1 ++ wsX1_delete_r2) ++ wsX10)
def wsX1_learns : List Cond := .code yX1_learns cX1_learns 5 (some .int) :: ([.fieldLink RX1 26 "EditGraphModel" "knows" "[J", .methodLink RX1 78 yX1_count, .instanceMethod yX1_count, .selects RX1 yX1_count yX1_count, .initialized RX1, .code yX1_count cX1_count 5 (some .int), .fieldLink RX1 40 "EditGraphModel" "events" "I", .methodLink RX1 43 yX1_has, .static yX1_has, .code yX1_has cX1_has 3 (some .boolean)] ++ wsX10)
def wsX1_learn_r1 : List Cond := [Cond.fieldLink RX1 26 "EditGraphModel" "knows" "[J", Cond.methodLink RX1 56 yX1_isAuthor, Cond.static yX1_isAuthor, Cond.initialized RX1, Cond.code yX1_isAuthor cX1_isAuthor 1 (some .boolean), Cond.methodLink RX1 36 yX1_in, Cond.static yX1_in, Cond.code yX1_in cX1_in 3 (some .boolean), Cond.methodLink RX1 82 yX1_asked, Cond.instanceMethod yX1_asked, Cond.selects RX1 yX1_asked yX1_asked, Cond.code yX1_asked cX1_asked 2 (some .boolean), Cond.fieldLink RX1 32 "EditGraphModel" "thrown" "I", Cond.methodLink RX1 85 yX1_learns, Cond.instanceMethod yX1_learns, Cond.selects RX1 yX1_learns yX1_learns, Cond.code yX1_learns cX1_learns 5 (some .int), Cond.methodLink RX1 78 yX1_count, Cond.instanceMethod yX1_count, Cond.selects RX1 yX1_count yX1_count, Cond.code yX1_count cX1_count 5 (some .int), Cond.fieldLink RX1 40 "EditGraphModel" "events" "I", Cond.methodLink RX1 43 yX1_has, Cond.static yX1_has]
def wsX1_learn_r2 : List Cond := [Cond.code yX1_has cX1_has 3 (some .boolean)]
def wsX1_learn : List Cond := .code yX1_learn cX1_learn 3 (some .int) :: ((wsX1_learn_r1 ++ wsX1_learn_r2) ++ wsX10)
def wsX1_learnEvent_r1 : List Cond := [Cond.methodLink RX1 56 yX1_isAuthor, Cond.static yX1_isAuthor, Cond.initialized RX1, Cond.code yX1_isAuthor cX1_isAuthor 1 (some .boolean), Cond.methodLink RX1 36 yX1_in, Cond.static yX1_in, Cond.code yX1_in cX1_in 3 (some .boolean), Cond.methodLink RX1 89 yX1_isEvent, Cond.instanceMethod yX1_isEvent, Cond.selects RX1 yX1_isEvent yX1_isEvent, Cond.code yX1_isEvent cX1_isEvent 2 (some .boolean), Cond.fieldLink RX1 40 "EditGraphModel" "events" "I", Cond.methodLink RX1 82 yX1_asked, Cond.instanceMethod yX1_asked, Cond.selects RX1 yX1_asked yX1_asked, Cond.code yX1_asked cX1_asked 2 (some .boolean), Cond.fieldLink RX1 32 "EditGraphModel" "thrown" "I", Cond.methodLink RX1 92 yX1_versionOf, Cond.instanceMethod yX1_versionOf, Cond.selects RX1 yX1_versionOf yX1_versionOf, Cond.code yX1_versionOf cX1_versionOf 2 (some .long), Cond.fieldLink RX1 23 "EditGraphModel" "ancestors" "[J", Cond.methodLink RX1 85 yX1_learns, Cond.instanceMethod yX1_learns]
def wsX1_learnEvent_r2 : List Cond := [Cond.selects RX1 yX1_learns yX1_learns, Cond.code yX1_learns cX1_learns 5 (some .int), Cond.fieldLink RX1 26 "EditGraphModel" "knows" "[J", Cond.methodLink RX1 78 yX1_count, Cond.instanceMethod yX1_count, Cond.selects RX1 yX1_count yX1_count, Cond.code yX1_count cX1_count 5 (some .int), Cond.methodLink RX1 43 yX1_has, Cond.static yX1_has, Cond.code yX1_has cX1_has 3 (some .boolean)]
def wsX1_learnEvent : List Cond := .code yX1_learnEvent cX1_learnEvent 3 (some .int) :: ((wsX1_learnEvent_r1 ++ wsX1_learnEvent_r2) ++ wsX10)
def wsX1_events : List Cond := .code yX1_events cX1_events 1 (some .int) :: ([.fieldLink RX1 32 "EditGraphModel" "thrown" "I", .fieldLink RX1 40 "EditGraphModel" "events" "I"] ++ wsX10)
def wsX1_length_r1 : List Cond := [Cond.fieldLink RX1 49 "EditGraphModel" "length" "I", Cond.methodLink RX1 64 yX1_looks, Cond.instanceMethod yX1_looks, Cond.selects RX1 yX1_looks yX1_looks, Cond.initialized RX1, Cond.code yX1_looks cX1_looks 3 (some .boolean), Cond.fieldLink RX1 26 "EditGraphModel" "knows" "[J", Cond.methodLink RX1 56 yX1_isAuthor, Cond.static yX1_isAuthor, Cond.code yX1_isAuthor cX1_isAuthor 1 (some .boolean), Cond.methodLink RX1 36 yX1_in, Cond.static yX1_in, Cond.code yX1_in cX1_in 3 (some .boolean), Cond.methodLink RX1 60 yX1_reads, Cond.instanceMethod yX1_reads, Cond.selects RX1 yX1_reads yX1_reads, Cond.code yX1_reads cX1_reads 7 none, Cond.fieldLink RX1 40 "EditGraphModel" "events" "I", Cond.fieldLink RX1 13 "EditGraphModel" "letter" "[I", Cond.fieldLink RX1 16 "EditGraphModel" "at" "[I", Cond.fieldLink RX1 29 "EditGraphModel" "row" "[I", Cond.methodLink RX1 43 yX1_has, Cond.static yX1_has, Cond.code yX1_has cX1_has 3 (some .boolean)]
def wsX1_length_r2 : List Cond := [Cond.methodLink RX1 82 yX1_asked, Cond.instanceMethod yX1_asked, Cond.selects RX1 yX1_asked yX1_asked, Cond.code yX1_asked cX1_asked 2 (some .boolean), Cond.fieldLink RX1 32 "EditGraphModel" "thrown" "I"]
def wsX1_length : List Cond := .code yX1_length cX1_length 2 (some .int) :: ((wsX1_length_r1 ++ wsX1_length_r2) ++ wsX10)
def wsX1_letterAt_r1 : List Cond := [Cond.fieldLink RX1 49 "EditGraphModel" "length" "I", Cond.fieldLink RX1 13 "EditGraphModel" "letter" "[I", Cond.fieldLink RX1 29 "EditGraphModel" "row" "[I", Cond.methodLink RX1 64 yX1_looks, Cond.instanceMethod yX1_looks, Cond.selects RX1 yX1_looks yX1_looks, Cond.initialized RX1, Cond.code yX1_looks cX1_looks 3 (some .boolean), Cond.fieldLink RX1 26 "EditGraphModel" "knows" "[J", Cond.methodLink RX1 56 yX1_isAuthor, Cond.static yX1_isAuthor, Cond.code yX1_isAuthor cX1_isAuthor 1 (some .boolean), Cond.methodLink RX1 36 yX1_in, Cond.static yX1_in, Cond.code yX1_in cX1_in 3 (some .boolean), Cond.methodLink RX1 60 yX1_reads, Cond.instanceMethod yX1_reads, Cond.selects RX1 yX1_reads yX1_reads, Cond.code yX1_reads cX1_reads 7 none, Cond.fieldLink RX1 40 "EditGraphModel" "events" "I", Cond.fieldLink RX1 16 "EditGraphModel" "at" "[I", Cond.methodLink RX1 43 yX1_has, Cond.static yX1_has, Cond.code yX1_has cX1_has 3 (some .boolean)]
def wsX1_letterAt_r2 : List Cond := [Cond.methodLink RX1 82 yX1_asked, Cond.instanceMethod yX1_asked, Cond.selects RX1 yX1_asked yX1_asked, Cond.code yX1_asked cX1_asked 2 (some .boolean), Cond.fieldLink RX1 32 "EditGraphModel" "thrown" "I"]
def wsX1_letterAt : List Cond := .code yX1_letterAt cX1_letterAt 3 (some .int) :: ((wsX1_letterAt_r1 ++ wsX1_letterAt_r2) ++ wsX10)
def wsX1_letterByList_r1 : List Cond := [Cond.methodLink RX1 96 yX1_letterAt, Cond.instanceMethod yX1_letterAt, Cond.selects RX1 yX1_letterAt yX1_letterAt, Cond.initialized RX1, Cond.code yX1_letterAt cX1_letterAt 3 (some .int), Cond.fieldLink RX1 49 "EditGraphModel" "length" "I", Cond.fieldLink RX1 13 "EditGraphModel" "letter" "[I", Cond.fieldLink RX1 29 "EditGraphModel" "row" "[I", Cond.methodLink RX1 64 yX1_looks, Cond.instanceMethod yX1_looks, Cond.selects RX1 yX1_looks yX1_looks, Cond.code yX1_looks cX1_looks 3 (some .boolean), Cond.fieldLink RX1 26 "EditGraphModel" "knows" "[J", Cond.methodLink RX1 56 yX1_isAuthor, Cond.static yX1_isAuthor, Cond.code yX1_isAuthor cX1_isAuthor 1 (some .boolean), Cond.methodLink RX1 36 yX1_in, Cond.static yX1_in, Cond.code yX1_in cX1_in 3 (some .boolean), Cond.methodLink RX1 60 yX1_reads, Cond.instanceMethod yX1_reads, Cond.selects RX1 yX1_reads yX1_reads, Cond.code yX1_reads cX1_reads 7 none, Cond.fieldLink RX1 40 "EditGraphModel" "events" "I"]
def wsX1_letterByList_r2 : List Cond := [Cond.fieldLink RX1 16 "EditGraphModel" "at" "[I", Cond.methodLink RX1 43 yX1_has, Cond.static yX1_has, Cond.code yX1_has cX1_has 3 (some .boolean), Cond.methodLink RX1 82 yX1_asked, Cond.instanceMethod yX1_asked, Cond.selects RX1 yX1_asked yX1_asked, Cond.code yX1_asked cX1_asked 2 (some .boolean), Cond.fieldLink RX1 32 "EditGraphModel" "thrown" "I"]
def wsX1_letterByList : List Cond := .code yX1_letterByList cX1_letterByList 3 (some .int) :: ((wsX1_letterByList_r1 ++ wsX1_letterByList_r2) ++ wsX10)
def wsX1_eventAt_r1 : List Cond := [Cond.fieldLink RX1 49 "EditGraphModel" "length" "I", Cond.fieldLink RX1 29 "EditGraphModel" "row" "[I", Cond.methodLink RX1 64 yX1_looks, Cond.instanceMethod yX1_looks, Cond.selects RX1 yX1_looks yX1_looks, Cond.initialized RX1, Cond.code yX1_looks cX1_looks 3 (some .boolean), Cond.fieldLink RX1 26 "EditGraphModel" "knows" "[J", Cond.methodLink RX1 56 yX1_isAuthor, Cond.static yX1_isAuthor, Cond.code yX1_isAuthor cX1_isAuthor 1 (some .boolean), Cond.methodLink RX1 36 yX1_in, Cond.static yX1_in, Cond.code yX1_in cX1_in 3 (some .boolean), Cond.methodLink RX1 60 yX1_reads, Cond.instanceMethod yX1_reads, Cond.selects RX1 yX1_reads yX1_reads, Cond.code yX1_reads cX1_reads 7 none, Cond.fieldLink RX1 40 "EditGraphModel" "events" "I", Cond.fieldLink RX1 13 "EditGraphModel" "letter" "[I", Cond.fieldLink RX1 16 "EditGraphModel" "at" "[I", Cond.methodLink RX1 43 yX1_has, Cond.static yX1_has, Cond.code yX1_has cX1_has 3 (some .boolean)]
def wsX1_eventAt_r2 : List Cond := [Cond.methodLink RX1 82 yX1_asked, Cond.instanceMethod yX1_asked, Cond.selects RX1 yX1_asked yX1_asked, Cond.code yX1_asked cX1_asked 2 (some .boolean), Cond.fieldLink RX1 32 "EditGraphModel" "thrown" "I"]
def wsX1_eventAt : List Cond := .code yX1_eventAt cX1_eventAt 3 (some .int) :: ((wsX1_eventAt_r1 ++ wsX1_eventAt_r2) ++ wsX10)
def wsX1_looksAt_r1 : List Cond := [Cond.methodLink RX1 89 yX1_isEvent, Cond.instanceMethod yX1_isEvent, Cond.selects RX1 yX1_isEvent yX1_isEvent, Cond.initialized RX1, Cond.code yX1_isEvent cX1_isEvent 2 (some .boolean), Cond.fieldLink RX1 40 "EditGraphModel" "events" "I", Cond.methodLink RX1 36 yX1_in, Cond.static yX1_in, Cond.code yX1_in cX1_in 3 (some .boolean), Cond.methodLink RX1 92 yX1_versionOf, Cond.instanceMethod yX1_versionOf, Cond.selects RX1 yX1_versionOf yX1_versionOf, Cond.code yX1_versionOf cX1_versionOf 2 (some .long), Cond.fieldLink RX1 23 "EditGraphModel" "ancestors" "[J", Cond.methodLink RX1 60 yX1_reads, Cond.instanceMethod yX1_reads, Cond.selects RX1 yX1_reads yX1_reads, Cond.code yX1_reads cX1_reads 7 none, Cond.fieldLink RX1 49 "EditGraphModel" "length" "I", Cond.fieldLink RX1 13 "EditGraphModel" "letter" "[I", Cond.fieldLink RX1 16 "EditGraphModel" "at" "[I", Cond.fieldLink RX1 29 "EditGraphModel" "row" "[I", Cond.methodLink RX1 43 yX1_has, Cond.static yX1_has]
def wsX1_looksAt_r2 : List Cond := [Cond.code yX1_has cX1_has 3 (some .boolean)]
def wsX1_looksAt : List Cond := .code yX1_looksAt cX1_looksAt 3 (some .boolean) :: ((wsX1_looksAt_r1 ++ wsX1_looksAt_r2) ++ wsX10)
def wsX1_lengthOf_r1 : List Cond := [Cond.fieldLink RX1 49 "EditGraphModel" "length" "I", Cond.methodLink RX1 100 yX1_looksAt, Cond.instanceMethod yX1_looksAt, Cond.selects RX1 yX1_looksAt yX1_looksAt, Cond.initialized RX1, Cond.code yX1_looksAt cX1_looksAt 3 (some .boolean), Cond.methodLink RX1 89 yX1_isEvent, Cond.instanceMethod yX1_isEvent, Cond.selects RX1 yX1_isEvent yX1_isEvent, Cond.code yX1_isEvent cX1_isEvent 2 (some .boolean), Cond.fieldLink RX1 40 "EditGraphModel" "events" "I", Cond.methodLink RX1 36 yX1_in, Cond.static yX1_in, Cond.code yX1_in cX1_in 3 (some .boolean), Cond.methodLink RX1 92 yX1_versionOf, Cond.instanceMethod yX1_versionOf, Cond.selects RX1 yX1_versionOf yX1_versionOf, Cond.code yX1_versionOf cX1_versionOf 2 (some .long), Cond.fieldLink RX1 23 "EditGraphModel" "ancestors" "[J", Cond.methodLink RX1 60 yX1_reads, Cond.instanceMethod yX1_reads, Cond.selects RX1 yX1_reads yX1_reads, Cond.code yX1_reads cX1_reads 7 none, Cond.fieldLink RX1 13 "EditGraphModel" "letter" "[I"]
def wsX1_lengthOf_r2 : List Cond := [Cond.fieldLink RX1 16 "EditGraphModel" "at" "[I", Cond.fieldLink RX1 29 "EditGraphModel" "row" "[I", Cond.methodLink RX1 43 yX1_has, Cond.static yX1_has, Cond.code yX1_has cX1_has 3 (some .boolean), Cond.methodLink RX1 82 yX1_asked, Cond.instanceMethod yX1_asked, Cond.selects RX1 yX1_asked yX1_asked, Cond.code yX1_asked cX1_asked 2 (some .boolean), Cond.fieldLink RX1 32 "EditGraphModel" "thrown" "I"]
def wsX1_lengthOf : List Cond := .code yX1_lengthOf cX1_lengthOf 2 (some .int) :: ((wsX1_lengthOf_r1 ++ wsX1_lengthOf_r2) ++ wsX10)
def wsX1_letterOf_r1 : List Cond := [Cond.fieldLink RX1 49 "EditGraphModel" "length" "I", Cond.fieldLink RX1 13 "EditGraphModel" "letter" "[I", Cond.fieldLink RX1 29 "EditGraphModel" "row" "[I", Cond.methodLink RX1 100 yX1_looksAt, Cond.instanceMethod yX1_looksAt, Cond.selects RX1 yX1_looksAt yX1_looksAt, Cond.initialized RX1, Cond.code yX1_looksAt cX1_looksAt 3 (some .boolean), Cond.methodLink RX1 89 yX1_isEvent, Cond.instanceMethod yX1_isEvent, Cond.selects RX1 yX1_isEvent yX1_isEvent, Cond.code yX1_isEvent cX1_isEvent 2 (some .boolean), Cond.fieldLink RX1 40 "EditGraphModel" "events" "I", Cond.methodLink RX1 36 yX1_in, Cond.static yX1_in, Cond.code yX1_in cX1_in 3 (some .boolean), Cond.methodLink RX1 92 yX1_versionOf, Cond.instanceMethod yX1_versionOf, Cond.selects RX1 yX1_versionOf yX1_versionOf, Cond.code yX1_versionOf cX1_versionOf 2 (some .long), Cond.fieldLink RX1 23 "EditGraphModel" "ancestors" "[J", Cond.methodLink RX1 60 yX1_reads, Cond.instanceMethod yX1_reads, Cond.selects RX1 yX1_reads yX1_reads]
def wsX1_letterOf_r2 : List Cond := [Cond.code yX1_reads cX1_reads 7 none, Cond.fieldLink RX1 16 "EditGraphModel" "at" "[I", Cond.methodLink RX1 43 yX1_has, Cond.static yX1_has, Cond.code yX1_has cX1_has 3 (some .boolean), Cond.methodLink RX1 82 yX1_asked, Cond.instanceMethod yX1_asked, Cond.selects RX1 yX1_asked yX1_asked, Cond.code yX1_asked cX1_asked 2 (some .boolean), Cond.fieldLink RX1 32 "EditGraphModel" "thrown" "I"]
def wsX1_letterOf : List Cond := .code yX1_letterOf cX1_letterOf 3 (some .int) :: ((wsX1_letterOf_r1 ++ wsX1_letterOf_r2) ++ wsX10)
def wsX1_lettersBy_r1 : List Cond := [Cond.fieldLink RX1 26 "EditGraphModel" "knows" "[J", Cond.fieldLink RX1 49 "EditGraphModel" "length" "I", Cond.fieldLink RX1 7 "EditGraphModel" "authorOf" "[I", Cond.fieldLink RX1 29 "EditGraphModel" "row" "[I", Cond.methodLink RX1 56 yX1_isAuthor, Cond.static yX1_isAuthor, Cond.initialized RX1, Cond.code yX1_isAuthor cX1_isAuthor 1 (some .boolean), Cond.methodLink RX1 36 yX1_in, Cond.static yX1_in, Cond.code yX1_in cX1_in 3 (some .boolean), Cond.methodLink RX1 82 yX1_asked, Cond.instanceMethod yX1_asked, Cond.selects RX1 yX1_asked yX1_asked, Cond.code yX1_asked cX1_asked 2 (some .boolean), Cond.fieldLink RX1 32 "EditGraphModel" "thrown" "I", Cond.methodLink RX1 60 yX1_reads, Cond.instanceMethod yX1_reads, Cond.selects RX1 yX1_reads yX1_reads, Cond.code yX1_reads cX1_reads 7 none, Cond.fieldLink RX1 40 "EditGraphModel" "events" "I", Cond.fieldLink RX1 13 "EditGraphModel" "letter" "[I", Cond.fieldLink RX1 16 "EditGraphModel" "at" "[I", Cond.methodLink RX1 43 yX1_has]
def wsX1_lettersBy_r2 : List Cond := [Cond.static yX1_has, Cond.code yX1_has cX1_has 3 (some .boolean)]
def wsX1_lettersBy : List Cond := .code yX1_lettersBy cX1_lettersBy 6 (some .int) :: ((wsX1_lettersBy_r1 ++ wsX1_lettersBy_r2) ++ wsX10)
def wsX1_authorOf : List Cond := .code yX1_authorOf cX1_authorOf 2 (some .int) :: ([.fieldLink RX1 7 "EditGraphModel" "authorOf" "[I", .methodLink RX1 89 yX1_isEvent, .instanceMethod yX1_isEvent, .selects RX1 yX1_isEvent yX1_isEvent, .initialized RX1, .code yX1_isEvent cX1_isEvent 2 (some .boolean), .fieldLink RX1 40 "EditGraphModel" "events" "I", .methodLink RX1 36 yX1_in, .static yX1_in, .code yX1_in cX1_in 3 (some .boolean), .methodLink RX1 82 yX1_asked, .instanceMethod yX1_asked, .selects RX1 yX1_asked yX1_asked, .code yX1_asked cX1_asked 2 (some .boolean), .fieldLink RX1 32 "EditGraphModel" "thrown" "I"] ++ wsX10)
def wsX1_parents : List Cond := .code yX1_parents cX1_parents 2 (some .long) :: ([.fieldLink RX1 19 "EditGraphModel" "parents" "[J", .methodLink RX1 89 yX1_isEvent, .instanceMethod yX1_isEvent, .selects RX1 yX1_isEvent yX1_isEvent, .initialized RX1, .code yX1_isEvent cX1_isEvent 2 (some .boolean), .fieldLink RX1 40 "EditGraphModel" "events" "I", .methodLink RX1 36 yX1_in, .static yX1_in, .code yX1_in cX1_in 3 (some .boolean), .methodLink RX1 82 yX1_asked, .instanceMethod yX1_asked, .selects RX1 yX1_asked yX1_asked, .code yX1_asked cX1_asked 2 (some .boolean), .fieldLink RX1 32 "EditGraphModel" "thrown" "I"] ++ wsX10)
def wsX1_isLater : List Cond := .code yX1_isLater cX1_isLater 3 (some .boolean) :: ([.fieldLink RX1 23 "EditGraphModel" "ancestors" "[J", .methodLink RX1 89 yX1_isEvent, .instanceMethod yX1_isEvent, .selects RX1 yX1_isEvent yX1_isEvent, .initialized RX1, .code yX1_isEvent cX1_isEvent 2 (some .boolean), .fieldLink RX1 40 "EditGraphModel" "events" "I", .methodLink RX1 36 yX1_in, .static yX1_in, .code yX1_in cX1_in 3 (some .boolean), .methodLink RX1 82 yX1_asked, .instanceMethod yX1_asked, .selects RX1 yX1_asked yX1_asked, .code yX1_asked cX1_asked 2 (some .boolean), .fieldLink RX1 32 "EditGraphModel" "thrown" "I", .methodLink RX1 43 yX1_has, .static yX1_has, .code yX1_has cX1_has 3 (some .boolean)] ++ wsX10)
def wsX1_version : List Cond := .code yX1_version cX1_version 2 (some .long) :: ([.fieldLink RX1 26 "EditGraphModel" "knows" "[J", .methodLink RX1 56 yX1_isAuthor, .static yX1_isAuthor, .initialized RX1, .code yX1_isAuthor cX1_isAuthor 1 (some .boolean), .methodLink RX1 36 yX1_in, .static yX1_in, .code yX1_in cX1_in 3 (some .boolean), .methodLink RX1 82 yX1_asked, .instanceMethod yX1_asked, .selects RX1 yX1_asked yX1_asked, .code yX1_asked cX1_asked 2 (some .boolean), .fieldLink RX1 32 "EditGraphModel" "thrown" "I"] ++ wsX10)
def wsX1_heads : List Cond := .code yX1_heads cX1_heads 2 (some .long) :: ([.fieldLink RX1 26 "EditGraphModel" "knows" "[J", .methodLink RX1 56 yX1_isAuthor, .static yX1_isAuthor, .initialized RX1, .code yX1_isAuthor cX1_isAuthor 1 (some .boolean), .methodLink RX1 36 yX1_in, .static yX1_in, .code yX1_in cX1_in 3 (some .boolean), .methodLink RX1 82 yX1_asked, .instanceMethod yX1_asked, .selects RX1 yX1_asked yX1_asked, .code yX1_asked cX1_asked 2 (some .boolean), .fieldLink RX1 32 "EditGraphModel" "thrown" "I", .methodLink RX1 52 yX1_headsOf, .instanceMethod yX1_headsOf, .selects RX1 yX1_headsOf yX1_headsOf, .code yX1_headsOf cX1_headsOf 6 (some .long), .fieldLink RX1 40 "EditGraphModel" "events" "I", .fieldLink RX1 19 "EditGraphModel" "parents" "[J", .constantLong RX1 47 (-1), .methodLink RX1 43 yX1_has, .static yX1_has, .code yX1_has cX1_has 3 (some .boolean)] ++ wsX10)
def wsX1_commonHeads : List Cond := .code yX1_commonHeads cX1_commonHeads 3 (some .long) :: ([.fieldLink RX1 26 "EditGraphModel" "knows" "[J", .methodLink RX1 56 yX1_isAuthor, .static yX1_isAuthor, .initialized RX1, .code yX1_isAuthor cX1_isAuthor 1 (some .boolean), .methodLink RX1 36 yX1_in, .static yX1_in, .code yX1_in cX1_in 3 (some .boolean), .methodLink RX1 82 yX1_asked, .instanceMethod yX1_asked, .selects RX1 yX1_asked yX1_asked, .code yX1_asked cX1_asked 2 (some .boolean), .fieldLink RX1 32 "EditGraphModel" "thrown" "I", .methodLink RX1 52 yX1_headsOf, .instanceMethod yX1_headsOf, .selects RX1 yX1_headsOf yX1_headsOf, .code yX1_headsOf cX1_headsOf 6 (some .long), .fieldLink RX1 40 "EditGraphModel" "events" "I", .fieldLink RX1 19 "EditGraphModel" "parents" "[J", .constantLong RX1 47 (-1), .methodLink RX1 43 yX1_has, .static yX1_has, .code yX1_has cX1_has 3 (some .boolean)] ++ wsX10)
def wsX1_areConcurrent : List Cond := .code yX1_areConcurrent cX1_areConcurrent 3 (some .boolean) :: ([.fieldLink RX1 23 "EditGraphModel" "ancestors" "[J", .methodLink RX1 43 yX1_has, .static yX1_has, .initialized RX1, .code yX1_has cX1_has 3 (some .boolean)] ++ wsX10)
def wsX1_concurrent : List Cond := .code yX1_concurrent cX1_concurrent 6 (some .int) :: ([.fieldLink RX1 40 "EditGraphModel" "events" "I", .fieldLink RX1 26 "EditGraphModel" "knows" "[J", .methodLink RX1 56 yX1_isAuthor, .static yX1_isAuthor, .initialized RX1, .code yX1_isAuthor cX1_isAuthor 1 (some .boolean), .methodLink RX1 36 yX1_in, .static yX1_in, .code yX1_in cX1_in 3 (some .boolean), .methodLink RX1 82 yX1_asked, .instanceMethod yX1_asked, .selects RX1 yX1_asked yX1_asked, .code yX1_asked cX1_asked 2 (some .boolean), .fieldLink RX1 32 "EditGraphModel" "thrown" "I", .methodLink RX1 43 yX1_has, .static yX1_has, .code yX1_has cX1_has 3 (some .boolean), .methodLink RX1 103 yX1_areConcurrent, .instanceMethod yX1_areConcurrent, .selects RX1 yX1_areConcurrent yX1_areConcurrent, .code yX1_areConcurrent cX1_areConcurrent 3 (some .boolean), .fieldLink RX1 23 "EditGraphModel" "ancestors" "[J"] ++ wsX10)
def wsX1_criticals : List Cond := .code yX1_criticals cX1_criticals 7 (some .long) :: ([.fieldLink RX1 40 "EditGraphModel" "events" "I", .fieldLink RX1 26 "EditGraphModel" "knows" "[J", .methodLink RX1 43 yX1_has, .static yX1_has, .initialized RX1, .code yX1_has cX1_has 3 (some .boolean), .methodLink RX1 103 yX1_areConcurrent, .instanceMethod yX1_areConcurrent, .selects RX1 yX1_areConcurrent yX1_areConcurrent, .code yX1_areConcurrent cX1_areConcurrent 3 (some .boolean), .fieldLink RX1 23 "EditGraphModel" "ancestors" "[J"] ++ wsX10)
def wsX1_critical_r1 : List Cond := [Cond.methodLink RX1 56 yX1_isAuthor, Cond.static yX1_isAuthor, Cond.initialized RX1, Cond.code yX1_isAuthor cX1_isAuthor 1 (some .boolean), Cond.methodLink RX1 36 yX1_in, Cond.static yX1_in, Cond.code yX1_in cX1_in 3 (some .boolean), Cond.methodLink RX1 82 yX1_asked, Cond.instanceMethod yX1_asked, Cond.selects RX1 yX1_asked yX1_asked, Cond.code yX1_asked cX1_asked 2 (some .boolean), Cond.fieldLink RX1 32 "EditGraphModel" "thrown" "I", Cond.methodLink RX1 107 yX1_criticals, Cond.instanceMethod yX1_criticals, Cond.selects RX1 yX1_criticals yX1_criticals, Cond.code yX1_criticals cX1_criticals 7 (some .long), Cond.fieldLink RX1 40 "EditGraphModel" "events" "I", Cond.fieldLink RX1 26 "EditGraphModel" "knows" "[J", Cond.methodLink RX1 43 yX1_has, Cond.static yX1_has, Cond.code yX1_has cX1_has 3 (some .boolean), Cond.methodLink RX1 103 yX1_areConcurrent, Cond.instanceMethod yX1_areConcurrent, Cond.selects RX1 yX1_areConcurrent yX1_areConcurrent]
def wsX1_critical_r2 : List Cond := [Cond.code yX1_areConcurrent cX1_areConcurrent 3 (some .boolean), Cond.fieldLink RX1 23 "EditGraphModel" "ancestors" "[J"]
def wsX1_critical : List Cond := .code yX1_critical cX1_critical 2 (some .long) :: ((wsX1_critical_r1 ++ wsX1_critical_r2) ++ wsX10)
def wsX1_toReplay_r1 : List Cond := [Cond.fieldLink RX1 40 "EditGraphModel" "events" "I", Cond.fieldLink RX1 26 "EditGraphModel" "knows" "[J", Cond.constantLong RX1 47 (-1), Cond.methodLink RX1 56 yX1_isAuthor, Cond.static yX1_isAuthor, Cond.initialized RX1, Cond.code yX1_isAuthor cX1_isAuthor 1 (some .boolean), Cond.methodLink RX1 36 yX1_in, Cond.static yX1_in, Cond.code yX1_in cX1_in 3 (some .boolean), Cond.methodLink RX1 82 yX1_asked, Cond.instanceMethod yX1_asked, Cond.selects RX1 yX1_asked yX1_asked, Cond.code yX1_asked cX1_asked 2 (some .boolean), Cond.fieldLink RX1 32 "EditGraphModel" "thrown" "I", Cond.methodLink RX1 107 yX1_criticals, Cond.instanceMethod yX1_criticals, Cond.selects RX1 yX1_criticals yX1_criticals, Cond.code yX1_criticals cX1_criticals 7 (some .long), Cond.methodLink RX1 43 yX1_has, Cond.static yX1_has, Cond.code yX1_has cX1_has 3 (some .boolean), Cond.methodLink RX1 103 yX1_areConcurrent, Cond.instanceMethod yX1_areConcurrent]
def wsX1_toReplay_r2 : List Cond := [Cond.selects RX1 yX1_areConcurrent yX1_areConcurrent, Cond.code yX1_areConcurrent cX1_areConcurrent 3 (some .boolean), Cond.fieldLink RX1 23 "EditGraphModel" "ancestors" "[J", Cond.methodLink RX1 92 yX1_versionOf, Cond.instanceMethod yX1_versionOf, Cond.selects RX1 yX1_versionOf yX1_versionOf, Cond.code yX1_versionOf cX1_versionOf 2 (some .long), Cond.methodLink RX1 78 yX1_count, Cond.instanceMethod yX1_count, Cond.selects RX1 yX1_count yX1_count, Cond.code yX1_count cX1_count 5 (some .int)]
def wsX1_toReplay : List Cond := .code yX1_toReplay cX1_toReplay 7 (some .int) :: ((wsX1_toReplay_r1 ++ wsX1_toReplay_r2) ++ wsX10)
def wsX1_goesOn : List Cond := .code yX1_goesOn cX1_goesOn 3 (some .boolean) :: ([.fieldLink RX1 16 "EditGraphModel" "at" "[I", .fieldLink RX1 13 "EditGraphModel" "letter" "[I", .fieldLink RX1 19 "EditGraphModel" "parents" "[J", .fieldLink RX1 7 "EditGraphModel" "authorOf" "[I"] ++ wsX10)
def wsX1_runs_r1 : List Cond := [Cond.fieldLink RX1 40 "EditGraphModel" "events" "I", Cond.fieldLink RX1 26 "EditGraphModel" "knows" "[J", Cond.methodLink RX1 56 yX1_isAuthor, Cond.static yX1_isAuthor, Cond.initialized RX1, Cond.code yX1_isAuthor cX1_isAuthor 1 (some .boolean), Cond.methodLink RX1 36 yX1_in, Cond.static yX1_in, Cond.code yX1_in cX1_in 3 (some .boolean), Cond.methodLink RX1 82 yX1_asked, Cond.instanceMethod yX1_asked, Cond.selects RX1 yX1_asked yX1_asked, Cond.code yX1_asked cX1_asked 2 (some .boolean), Cond.fieldLink RX1 32 "EditGraphModel" "thrown" "I", Cond.methodLink RX1 43 yX1_has, Cond.static yX1_has, Cond.code yX1_has cX1_has 3 (some .boolean), Cond.methodLink RX1 110 yX1_goesOn, Cond.instanceMethod yX1_goesOn, Cond.selects RX1 yX1_goesOn yX1_goesOn, Cond.code yX1_goesOn cX1_goesOn 3 (some .boolean), Cond.fieldLink RX1 16 "EditGraphModel" "at" "[I", Cond.fieldLink RX1 13 "EditGraphModel" "letter" "[I", Cond.fieldLink RX1 19 "EditGraphModel" "parents" "[J"]
def wsX1_runs_r2 : List Cond := [Cond.fieldLink RX1 7 "EditGraphModel" "authorOf" "[I"]
def wsX1_runs : List Cond := .code yX1_runs cX1_runs 5 (some .int) :: ((wsX1_runs_r1 ++ wsX1_runs_r2) ++ wsX10)
def wsL_insert_r1 : List Cond := [Cond.classLink RL 13 "java/lang/IndexOutOfBoundsException", Cond.classLink RL 15 "java/lang/IllegalArgumentException", Cond.classLink RL 17 "java/lang/IllegalStateException", Cond.methodLink RL 7 yX0_insert, Cond.instanceMethod yX0_insert, Cond.selects RX0 yX0_insert yX0_insert, Cond.initialized RX0, Cond.code yX0_insert cX0_insert 7 (some .int), Cond.classLink RX0 66 "java/lang/IllegalArgumentException", Cond.initialized "java/lang/IllegalArgumentException", Cond.fieldLink RX0 33 "EditGraph" "knownSets" "[J", Cond.fieldLink RX0 45 "EditGraph" "textEvents" "[I", Cond.methodLink RX0 54 yX0_checkAuthor, Cond.instanceMethod yX0_checkAuthor, Cond.selects RX0 yX0_checkAuthor yX0_checkAuthor, Cond.code yX0_checkAuthor cX0_checkAuthor 2 none, Cond.classLink RX0 126 "java/lang/IndexOutOfBoundsException", Cond.initialized "java/lang/IndexOutOfBoundsException", Cond.methodLink RX0 58 yX0_findText, Cond.instanceMethod yX0_findText, Cond.selects RX0 yX0_findText yX0_findText, Cond.code yX0_findText cX0_findText 9 (some .int), Cond.fieldLink RX0 36 "EditGraph" "firstAtBeginning" "I", Cond.fieldLink RX0 48 "EditGraph" "waiting" "[I"]
def wsL_insert_r2 : List Cond := [Cond.fieldLink RX0 42 "EditGraph" "nextBeside" "[I", Cond.fieldLink RX0 39 "EditGraph" "firstHanging" "[I", Cond.methodLink RX0 153 yX0_standingIn, Cond.instanceMethod yX0_standingIn, Cond.selects RX0 yX0_standingIn yX0_standingIn, Cond.code yX0_standingIn cX0_standingIn 8 (some .long), Cond.fieldLink RX0 7 "EditGraph" "eventCount" "I", Cond.fieldLink RX0 20 "EditGraph" "targets" "[I", Cond.constantLong RX0 112 (-1), Cond.methodLink RX0 101 yX0_has, Cond.static yX0_has, Cond.code yX0_has cX0_has 3 (some .boolean), Cond.methodLink RX0 143 yX0_only, Cond.static yX0_only, Cond.code yX0_only cX0_only 1 (some .long), Cond.methodLink RX0 146 yX0_isInsert, Cond.instanceMethod yX0_isInsert, Cond.selects RX0 yX0_isInsert yX0_isInsert, Cond.code yX0_isInsert cX0_isInsert 2 (some .boolean), Cond.fieldLink RX0 17 "EditGraph" "letters" "[I", Cond.methodLink RX0 156 yX0_putWaiting, Cond.instanceMethod yX0_putWaiting, Cond.selects RX0 yX0_putWaiting yX0_putWaiting, Cond.code yX0_putWaiting cX0_putWaiting 3 (some .int)]
def wsL_insert_r3 : List Cond := [Cond.methodLink RX0 131 yX0_isEvent, Cond.instanceMethod yX0_isEvent, Cond.selects RX0 yX0_isEvent yX0_isEvent, Cond.code yX0_isEvent cX0_isEvent 2 (some .boolean), Cond.methodLink RX0 160 yX0_putText, Cond.instanceMethod yX0_putText, Cond.selects RX0 yX0_putText yX0_putText, Cond.code yX0_putText cX0_putText 5 (some .int), Cond.methodLink RX0 62 yX0_checkPlace, Cond.instanceMethod yX0_checkPlace, Cond.selects RX0 yX0_checkPlace yX0_checkPlace, Cond.code yX0_checkPlace cX0_checkPlace 3 none, Cond.methodLink RX0 73 yX0_checkRoom, Cond.instanceMethod yX0_checkRoom, Cond.selects RX0 yX0_checkRoom yX0_checkRoom, Cond.code yX0_checkRoom cX0_checkRoom 1 none, Cond.classLink RX0 138 "java/lang/IllegalStateException", Cond.initialized "java/lang/IllegalStateException", Cond.methodLink RX0 76 yX0_addEvent, Cond.instanceMethod yX0_addEvent, Cond.selects RX0 yX0_addEvent yX0_addEvent, Cond.code yX0_addEvent cX0_addEvent 7 (some .int), Cond.fieldLink RX0 13 "EditGraph" "makers" "[I", Cond.fieldLink RX0 23 "EditGraph" "parentSets" "[J"]
def wsL_insert_r4 : List Cond := [Cond.fieldLink RX0 27 "EditGraph" "ancestorSets" "[J", Cond.methodLink RX0 105 yX0_headsOf, Cond.instanceMethod yX0_headsOf, Cond.selects RX0 yX0_headsOf yX0_headsOf, Cond.code yX0_headsOf cX0_headsOf 6 (some .long), Cond.methodLink RX0 149 yX0_markLater, Cond.instanceMethod yX0_markLater, Cond.selects RX0 yX0_markLater yX0_markLater, Cond.code yX0_markLater cX0_markLater 5 none, Cond.fieldLink RX0 30 "EditGraph" "laterSets" "[J", Cond.methodLink RX0 80 yX0_hangLetter, Cond.instanceMethod yX0_hangLetter, Cond.selects RX0 yX0_hangLetter yX0_hangLetter, Cond.code yX0_hangLetter cX0_hangLetter 3 none]
def wsL_insert : List Cond := .codeWith yL_insert cL_insert 6 (some .int) [(0, 12, 15, 13), (0, 12, 19, 15), (0, 12, 23, 17)] :: ((wsL_insert_r1 ++ (wsL_insert_r2 ++ (wsL_insert_r3 ++ wsL_insert_r4))) ++ wsX00 ++ (vx_atS RX0 70 "java/lang/IllegalArgumentException" ["java/lang/RuntimeException", "java/lang/Exception"]).filter goodWord ++ (vx_atS RX0 130 "java/lang/IndexOutOfBoundsException" ["java/lang/RuntimeException", "java/lang/Exception"]).filter goodWord ++ (vx_atS RX0 142 "java/lang/IllegalStateException" ["java/lang/RuntimeException", "java/lang/Exception"]).filter goodWord)
def wsL_delete_r1 : List Cond := [Cond.classLink RL 13 "java/lang/IndexOutOfBoundsException", Cond.classLink RL 17 "java/lang/IllegalStateException", Cond.methodLink RL 19 yX0_delete, Cond.instanceMethod yX0_delete, Cond.selects RX0 yX0_delete yX0_delete, Cond.initialized RX0, Cond.code yX0_delete cX0_delete 4 (some .int), Cond.fieldLink RX0 33 "EditGraph" "knownSets" "[J", Cond.fieldLink RX0 45 "EditGraph" "textEvents" "[I", Cond.methodLink RX0 54 yX0_checkAuthor, Cond.instanceMethod yX0_checkAuthor, Cond.selects RX0 yX0_checkAuthor yX0_checkAuthor, Cond.code yX0_checkAuthor cX0_checkAuthor 2 none, Cond.classLink RX0 126 "java/lang/IndexOutOfBoundsException", Cond.initialized "java/lang/IndexOutOfBoundsException", Cond.methodLink RX0 58 yX0_findText, Cond.instanceMethod yX0_findText, Cond.selects RX0 yX0_findText yX0_findText, Cond.code yX0_findText cX0_findText 9 (some .int), Cond.fieldLink RX0 36 "EditGraph" "firstAtBeginning" "I", Cond.fieldLink RX0 48 "EditGraph" "waiting" "[I", Cond.fieldLink RX0 42 "EditGraph" "nextBeside" "[I", Cond.fieldLink RX0 39 "EditGraph" "firstHanging" "[I", Cond.methodLink RX0 153 yX0_standingIn]
def wsL_delete_r2 : List Cond := [Cond.instanceMethod yX0_standingIn, Cond.selects RX0 yX0_standingIn yX0_standingIn, Cond.code yX0_standingIn cX0_standingIn 8 (some .long), Cond.fieldLink RX0 7 "EditGraph" "eventCount" "I", Cond.fieldLink RX0 20 "EditGraph" "targets" "[I", Cond.constantLong RX0 112 (-1), Cond.methodLink RX0 101 yX0_has, Cond.static yX0_has, Cond.code yX0_has cX0_has 3 (some .boolean), Cond.methodLink RX0 143 yX0_only, Cond.static yX0_only, Cond.code yX0_only cX0_only 1 (some .long), Cond.methodLink RX0 146 yX0_isInsert, Cond.instanceMethod yX0_isInsert, Cond.selects RX0 yX0_isInsert yX0_isInsert, Cond.code yX0_isInsert cX0_isInsert 2 (some .boolean), Cond.fieldLink RX0 17 "EditGraph" "letters" "[I", Cond.methodLink RX0 156 yX0_putWaiting, Cond.instanceMethod yX0_putWaiting, Cond.selects RX0 yX0_putWaiting yX0_putWaiting, Cond.code yX0_putWaiting cX0_putWaiting 3 (some .int), Cond.methodLink RX0 131 yX0_isEvent, Cond.instanceMethod yX0_isEvent, Cond.selects RX0 yX0_isEvent yX0_isEvent]
def wsL_delete_r3 : List Cond := [Cond.code yX0_isEvent cX0_isEvent 2 (some .boolean), Cond.methodLink RX0 160 yX0_putText, Cond.instanceMethod yX0_putText, Cond.selects RX0 yX0_putText yX0_putText, Cond.code yX0_putText cX0_putText 5 (some .int), Cond.methodLink RX0 62 yX0_checkPlace, Cond.instanceMethod yX0_checkPlace, Cond.selects RX0 yX0_checkPlace yX0_checkPlace, Cond.code yX0_checkPlace cX0_checkPlace 3 none, Cond.methodLink RX0 73 yX0_checkRoom, Cond.instanceMethod yX0_checkRoom, Cond.selects RX0 yX0_checkRoom yX0_checkRoom, Cond.code yX0_checkRoom cX0_checkRoom 1 none, Cond.classLink RX0 138 "java/lang/IllegalStateException", Cond.initialized "java/lang/IllegalStateException", Cond.methodLink RX0 76 yX0_addEvent, Cond.instanceMethod yX0_addEvent, Cond.selects RX0 yX0_addEvent yX0_addEvent, Cond.code yX0_addEvent cX0_addEvent 7 (some .int), Cond.fieldLink RX0 13 "EditGraph" "makers" "[I", Cond.fieldLink RX0 23 "EditGraph" "parentSets" "[J", Cond.fieldLink RX0 27 "EditGraph" "ancestorSets" "[J", Cond.methodLink RX0 105 yX0_headsOf, Cond.instanceMethod yX0_headsOf]
def wsL_delete_r4 : List Cond := [Cond.selects RX0 yX0_headsOf yX0_headsOf, Cond.code yX0_headsOf cX0_headsOf 6 (some .long), Cond.methodLink RX0 149 yX0_markLater, Cond.instanceMethod yX0_markLater, Cond.selects RX0 yX0_markLater yX0_markLater, Cond.code yX0_markLater cX0_markLater 5 none, Cond.fieldLink RX0 30 "EditGraph" "laterSets" "[J"]
def wsL_delete : List Cond := .codeWith yL_delete cL_delete 5 (some .int) [(0, 10, 13, 13), (0, 10, 17, 17)] :: ((wsL_delete_r1 ++ (wsL_delete_r2 ++ (wsL_delete_r3 ++ wsL_delete_r4))) ++ wsX00 ++ (vx_atS RX0 130 "java/lang/IndexOutOfBoundsException" ["java/lang/RuntimeException", "java/lang/Exception"]).filter goodWord ++ (vx_atS RX0 142 "java/lang/IllegalStateException" ["java/lang/RuntimeException", "java/lang/Exception"]).filter goodWord)
def wsL_learn_r1 : List Cond := [Cond.classLink RL 13 "java/lang/IndexOutOfBoundsException", Cond.methodLink RL 23 yX0_learn, Cond.instanceMethod yX0_learn, Cond.selects RX0 yX0_learn yX0_learn, Cond.initialized RX0, Cond.code yX0_learn cX0_learn 3 (some .int), Cond.fieldLink RX0 33 "EditGraph" "knownSets" "[J", Cond.methodLink RX0 54 yX0_checkAuthor, Cond.instanceMethod yX0_checkAuthor, Cond.selects RX0 yX0_checkAuthor yX0_checkAuthor, Cond.code yX0_checkAuthor cX0_checkAuthor 2 none, Cond.classLink RX0 126 "java/lang/IndexOutOfBoundsException", Cond.initialized "java/lang/IndexOutOfBoundsException", Cond.methodLink RX0 83 yX0_addKnown, Cond.instanceMethod yX0_addKnown, Cond.selects RX0 yX0_addKnown yX0_addKnown, Cond.code yX0_addKnown cX0_addKnown 5 (some .int), Cond.constantLong RX0 112 (-1), Cond.methodLink RX0 114 yJ13_bitCount_95d88, Cond.static yJ13_bitCount_95d88, Cond.initialized RJ13, Cond.code yJ13_bitCount_95d88 cJ13_bitCount_95d88 2 (some .int), Cond.constantLong RJ13 314 (6148914691236517205), Cond.constantLong RJ13 316 (3689348814741910323)]
def wsL_learn_r2 : List Cond := [Cond.constantLong RJ13 318 (1085102592571150095)]
def wsL_learn : List Cond := .codeWith yL_learn cL_learn 5 (some .int) [(0, 10, 13, 13)] :: ((wsL_learn_r1 ++ wsL_learn_r2) ++ wsX00 ++ (vx_atS RX0 130 "java/lang/IndexOutOfBoundsException" ["java/lang/RuntimeException", "java/lang/Exception"]).filter goodWord)
def wsL_learnEvent_r1 : List Cond := [Cond.classLink RL 13 "java/lang/IndexOutOfBoundsException", Cond.methodLink RL 26 yX0_learnEvent, Cond.instanceMethod yX0_learnEvent, Cond.selects RX0 yX0_learnEvent yX0_learnEvent, Cond.initialized RX0, Cond.code yX0_learnEvent cX0_learnEvent 3 (some .int), Cond.methodLink RX0 54 yX0_checkAuthor, Cond.instanceMethod yX0_checkAuthor, Cond.selects RX0 yX0_checkAuthor yX0_checkAuthor, Cond.code yX0_checkAuthor cX0_checkAuthor 2 none, Cond.classLink RX0 126 "java/lang/IndexOutOfBoundsException", Cond.initialized "java/lang/IndexOutOfBoundsException", Cond.methodLink RX0 87 yX0_checkEvent, Cond.instanceMethod yX0_checkEvent, Cond.selects RX0 yX0_checkEvent yX0_checkEvent, Cond.code yX0_checkEvent cX0_checkEvent 2 none, Cond.methodLink RX0 131 yX0_isEvent, Cond.instanceMethod yX0_isEvent, Cond.selects RX0 yX0_isEvent yX0_isEvent, Cond.code yX0_isEvent cX0_isEvent 2 (some .boolean), Cond.fieldLink RX0 7 "EditGraph" "eventCount" "I", Cond.methodLink RX0 90 yX0_versionOfEvent, Cond.instanceMethod yX0_versionOfEvent, Cond.selects RX0 yX0_versionOfEvent yX0_versionOfEvent]
def wsL_learnEvent_r2 : List Cond := [Cond.code yX0_versionOfEvent cX0_versionOfEvent 2 (some .long), Cond.fieldLink RX0 27 "EditGraph" "ancestorSets" "[J", Cond.methodLink RX0 143 yX0_only, Cond.static yX0_only, Cond.code yX0_only cX0_only 1 (some .long), Cond.methodLink RX0 83 yX0_addKnown, Cond.instanceMethod yX0_addKnown, Cond.selects RX0 yX0_addKnown yX0_addKnown, Cond.code yX0_addKnown cX0_addKnown 5 (some .int), Cond.fieldLink RX0 33 "EditGraph" "knownSets" "[J", Cond.constantLong RX0 112 (-1), Cond.methodLink RX0 114 yJ13_bitCount_95d88, Cond.static yJ13_bitCount_95d88, Cond.initialized RJ13, Cond.code yJ13_bitCount_95d88 cJ13_bitCount_95d88 2 (some .int), Cond.constantLong RJ13 314 (6148914691236517205), Cond.constantLong RJ13 316 (3689348814741910323), Cond.constantLong RJ13 318 (1085102592571150095)]
def wsL_learnEvent : List Cond := .codeWith yL_learnEvent cL_learnEvent 5 (some .int) [(0, 10, 13, 13)] :: ((wsL_learnEvent_r1 ++ wsL_learnEvent_r2) ++ wsX00 ++ (vx_atS RX0 130 "java/lang/IndexOutOfBoundsException" ["java/lang/RuntimeException", "java/lang/Exception"]).filter goodWord)
def wsL_length_r1 : List Cond := [Cond.classLink RL 13 "java/lang/IndexOutOfBoundsException", Cond.methodLink RL 29 yX0_length, Cond.instanceMethod yX0_length, Cond.selects RX0 yX0_length yX0_length, Cond.initialized RX0, Cond.code yX0_length cX0_length 2 (some .int), Cond.fieldLink RX0 33 "EditGraph" "knownSets" "[J", Cond.methodLink RX0 54 yX0_checkAuthor, Cond.instanceMethod yX0_checkAuthor, Cond.selects RX0 yX0_checkAuthor yX0_checkAuthor, Cond.code yX0_checkAuthor cX0_checkAuthor 2 none, Cond.classLink RX0 126 "java/lang/IndexOutOfBoundsException", Cond.initialized "java/lang/IndexOutOfBoundsException", Cond.methodLink RX0 58 yX0_findText, Cond.instanceMethod yX0_findText, Cond.selects RX0 yX0_findText yX0_findText, Cond.code yX0_findText cX0_findText 9 (some .int), Cond.fieldLink RX0 36 "EditGraph" "firstAtBeginning" "I", Cond.fieldLink RX0 48 "EditGraph" "waiting" "[I", Cond.fieldLink RX0 42 "EditGraph" "nextBeside" "[I", Cond.fieldLink RX0 39 "EditGraph" "firstHanging" "[I", Cond.methodLink RX0 153 yX0_standingIn, Cond.instanceMethod yX0_standingIn, Cond.selects RX0 yX0_standingIn yX0_standingIn]
def wsL_length_r2 : List Cond := [Cond.code yX0_standingIn cX0_standingIn 8 (some .long), Cond.fieldLink RX0 7 "EditGraph" "eventCount" "I", Cond.fieldLink RX0 20 "EditGraph" "targets" "[I", Cond.constantLong RX0 112 (-1), Cond.methodLink RX0 101 yX0_has, Cond.static yX0_has, Cond.code yX0_has cX0_has 3 (some .boolean), Cond.methodLink RX0 143 yX0_only, Cond.static yX0_only, Cond.code yX0_only cX0_only 1 (some .long), Cond.methodLink RX0 146 yX0_isInsert, Cond.instanceMethod yX0_isInsert, Cond.selects RX0 yX0_isInsert yX0_isInsert, Cond.code yX0_isInsert cX0_isInsert 2 (some .boolean), Cond.fieldLink RX0 17 "EditGraph" "letters" "[I", Cond.methodLink RX0 156 yX0_putWaiting, Cond.instanceMethod yX0_putWaiting, Cond.selects RX0 yX0_putWaiting yX0_putWaiting, Cond.code yX0_putWaiting cX0_putWaiting 3 (some .int), Cond.methodLink RX0 131 yX0_isEvent, Cond.instanceMethod yX0_isEvent, Cond.selects RX0 yX0_isEvent yX0_isEvent, Cond.code yX0_isEvent cX0_isEvent 2 (some .boolean), Cond.methodLink RX0 160 yX0_putText]
def wsL_length_r3 : List Cond := [Cond.instanceMethod yX0_putText, Cond.selects RX0 yX0_putText yX0_putText, Cond.code yX0_putText cX0_putText 5 (some .int), Cond.fieldLink RX0 45 "EditGraph" "textEvents" "[I"]
def wsL_length : List Cond := .codeWith yL_length cL_length 4 (some .int) [(0, 9, 12, 13)] :: ((wsL_length_r1 ++ (wsL_length_r2 ++ wsL_length_r3)) ++ wsX00 ++ (vx_atS RX0 130 "java/lang/IndexOutOfBoundsException" ["java/lang/RuntimeException", "java/lang/Exception"]).filter goodWord)
def wsL_letterAt_r1 : List Cond := [Cond.classLink RL 13 "java/lang/IndexOutOfBoundsException", Cond.methodLink RL 33 yX0_letterAt, Cond.instanceMethod yX0_letterAt, Cond.selects RX0 yX0_letterAt yX0_letterAt, Cond.initialized RX0, Cond.code yX0_letterAt cX0_letterAt 3 (some .int), Cond.fieldLink RX0 17 "EditGraph" "letters" "[I", Cond.fieldLink RX0 33 "EditGraph" "knownSets" "[J", Cond.methodLink RX0 54 yX0_checkAuthor, Cond.instanceMethod yX0_checkAuthor, Cond.selects RX0 yX0_checkAuthor yX0_checkAuthor, Cond.code yX0_checkAuthor cX0_checkAuthor 2 none, Cond.classLink RX0 126 "java/lang/IndexOutOfBoundsException", Cond.initialized "java/lang/IndexOutOfBoundsException", Cond.methodLink RX0 94 yX0_eventInText, Cond.instanceMethod yX0_eventInText, Cond.selects RX0 yX0_eventInText yX0_eventInText, Cond.code yX0_eventInText cX0_eventInText 5 (some .int), Cond.fieldLink RX0 45 "EditGraph" "textEvents" "[I", Cond.methodLink RX0 58 yX0_findText, Cond.instanceMethod yX0_findText, Cond.selects RX0 yX0_findText yX0_findText, Cond.code yX0_findText cX0_findText 9 (some .int), Cond.fieldLink RX0 36 "EditGraph" "firstAtBeginning" "I"]
def wsL_letterAt_r2 : List Cond := [Cond.fieldLink RX0 48 "EditGraph" "waiting" "[I", Cond.fieldLink RX0 42 "EditGraph" "nextBeside" "[I", Cond.fieldLink RX0 39 "EditGraph" "firstHanging" "[I", Cond.methodLink RX0 153 yX0_standingIn, Cond.instanceMethod yX0_standingIn, Cond.selects RX0 yX0_standingIn yX0_standingIn, Cond.code yX0_standingIn cX0_standingIn 8 (some .long), Cond.fieldLink RX0 7 "EditGraph" "eventCount" "I", Cond.fieldLink RX0 20 "EditGraph" "targets" "[I", Cond.constantLong RX0 112 (-1), Cond.methodLink RX0 101 yX0_has, Cond.static yX0_has, Cond.code yX0_has cX0_has 3 (some .boolean), Cond.methodLink RX0 143 yX0_only, Cond.static yX0_only, Cond.code yX0_only cX0_only 1 (some .long), Cond.methodLink RX0 146 yX0_isInsert, Cond.instanceMethod yX0_isInsert, Cond.selects RX0 yX0_isInsert yX0_isInsert, Cond.code yX0_isInsert cX0_isInsert 2 (some .boolean), Cond.methodLink RX0 156 yX0_putWaiting, Cond.instanceMethod yX0_putWaiting, Cond.selects RX0 yX0_putWaiting yX0_putWaiting, Cond.code yX0_putWaiting cX0_putWaiting 3 (some .int)]
def wsL_letterAt_r3 : List Cond := [Cond.methodLink RX0 131 yX0_isEvent, Cond.instanceMethod yX0_isEvent, Cond.selects RX0 yX0_isEvent yX0_isEvent, Cond.code yX0_isEvent cX0_isEvent 2 (some .boolean), Cond.methodLink RX0 160 yX0_putText, Cond.instanceMethod yX0_putText, Cond.selects RX0 yX0_putText yX0_putText, Cond.code yX0_putText cX0_putText 5 (some .int), Cond.methodLink RX0 62 yX0_checkPlace, Cond.instanceMethod yX0_checkPlace, Cond.selects RX0 yX0_checkPlace yX0_checkPlace, Cond.code yX0_checkPlace cX0_checkPlace 3 none]
def wsL_letterAt : List Cond := .codeWith yL_letterAt cL_letterAt 5 (some .int) [(0, 10, 13, 13)] :: ((wsL_letterAt_r1 ++ (wsL_letterAt_r2 ++ wsL_letterAt_r3)) ++ wsX00 ++ (vx_atS RX0 130 "java/lang/IndexOutOfBoundsException" ["java/lang/RuntimeException", "java/lang/Exception"]).filter goodWord)
def wsL_letterByList_r1 : List Cond := [Cond.classLink RL 13 "java/lang/IndexOutOfBoundsException", Cond.methodLink RL 36 yX0_letterByList, Cond.instanceMethod yX0_letterByList, Cond.selects RX0 yX0_letterByList yX0_letterByList, Cond.initialized RX0, Cond.code yX0_letterByList cX0_letterByList 4 (some .int), Cond.fieldLink RX0 33 "EditGraph" "knownSets" "[J", Cond.fieldLink RX0 17 "EditGraph" "letters" "[I", Cond.fieldLink RX0 45 "EditGraph" "textEvents" "[I", Cond.methodLink RX0 54 yX0_checkAuthor, Cond.instanceMethod yX0_checkAuthor, Cond.selects RX0 yX0_checkAuthor yX0_checkAuthor, Cond.code yX0_checkAuthor cX0_checkAuthor 2 none, Cond.classLink RX0 126 "java/lang/IndexOutOfBoundsException", Cond.initialized "java/lang/IndexOutOfBoundsException", Cond.methodLink RX0 98 yX0_findTextByList, Cond.instanceMethod yX0_findTextByList, Cond.selects RX0 yX0_findTextByList yX0_findTextByList, Cond.code yX0_findTextByList cX0_findTextByList 8 (some .int), Cond.fieldLink RX0 51 "EditGraph" "behind" "[I", Cond.methodLink RX0 153 yX0_standingIn, Cond.instanceMethod yX0_standingIn, Cond.selects RX0 yX0_standingIn yX0_standingIn, Cond.code yX0_standingIn cX0_standingIn 8 (some .long)]
def wsL_letterByList_r2 : List Cond := [Cond.fieldLink RX0 7 "EditGraph" "eventCount" "I", Cond.fieldLink RX0 20 "EditGraph" "targets" "[I", Cond.constantLong RX0 112 (-1), Cond.methodLink RX0 101 yX0_has, Cond.static yX0_has, Cond.code yX0_has cX0_has 3 (some .boolean), Cond.methodLink RX0 143 yX0_only, Cond.static yX0_only, Cond.code yX0_only cX0_only 1 (some .long), Cond.methodLink RX0 146 yX0_isInsert, Cond.instanceMethod yX0_isInsert, Cond.selects RX0 yX0_isInsert yX0_isInsert, Cond.code yX0_isInsert cX0_isInsert 2 (some .boolean), Cond.methodLink RX0 164 yX0_layList, Cond.instanceMethod yX0_layList, Cond.selects RX0 yX0_layList yX0_layList, Cond.code yX0_layList cX0_layList 6 (some .int), Cond.methodLink RX0 131 yX0_isEvent, Cond.instanceMethod yX0_isEvent, Cond.selects RX0 yX0_isEvent yX0_isEvent, Cond.code yX0_isEvent cX0_isEvent 2 (some .boolean), Cond.methodLink RX0 160 yX0_putText, Cond.instanceMethod yX0_putText, Cond.selects RX0 yX0_putText yX0_putText]
def wsL_letterByList_r3 : List Cond := [Cond.code yX0_putText cX0_putText 5 (some .int), Cond.methodLink RX0 62 yX0_checkPlace, Cond.instanceMethod yX0_checkPlace, Cond.selects RX0 yX0_checkPlace yX0_checkPlace, Cond.code yX0_checkPlace cX0_checkPlace 3 none]
def wsL_letterByList : List Cond := .codeWith yL_letterByList cL_letterByList 5 (some .int) [(0, 10, 13, 13)] :: ((wsL_letterByList_r1 ++ (wsL_letterByList_r2 ++ wsL_letterByList_r3)) ++ wsX00 ++ (vx_atS RX0 130 "java/lang/IndexOutOfBoundsException" ["java/lang/RuntimeException", "java/lang/Exception"]).filter goodWord)
def wsL_eventAt_r1 : List Cond := [Cond.classLink RL 13 "java/lang/IndexOutOfBoundsException", Cond.methodLink RL 39 yX0_eventAt, Cond.instanceMethod yX0_eventAt, Cond.selects RX0 yX0_eventAt yX0_eventAt, Cond.initialized RX0, Cond.code yX0_eventAt cX0_eventAt 3 (some .int), Cond.fieldLink RX0 33 "EditGraph" "knownSets" "[J", Cond.methodLink RX0 54 yX0_checkAuthor, Cond.instanceMethod yX0_checkAuthor, Cond.selects RX0 yX0_checkAuthor yX0_checkAuthor, Cond.code yX0_checkAuthor cX0_checkAuthor 2 none, Cond.classLink RX0 126 "java/lang/IndexOutOfBoundsException", Cond.initialized "java/lang/IndexOutOfBoundsException", Cond.methodLink RX0 94 yX0_eventInText, Cond.instanceMethod yX0_eventInText, Cond.selects RX0 yX0_eventInText yX0_eventInText, Cond.code yX0_eventInText cX0_eventInText 5 (some .int), Cond.fieldLink RX0 45 "EditGraph" "textEvents" "[I", Cond.methodLink RX0 58 yX0_findText, Cond.instanceMethod yX0_findText, Cond.selects RX0 yX0_findText yX0_findText, Cond.code yX0_findText cX0_findText 9 (some .int), Cond.fieldLink RX0 36 "EditGraph" "firstAtBeginning" "I", Cond.fieldLink RX0 48 "EditGraph" "waiting" "[I"]
def wsL_eventAt_r2 : List Cond := [Cond.fieldLink RX0 42 "EditGraph" "nextBeside" "[I", Cond.fieldLink RX0 39 "EditGraph" "firstHanging" "[I", Cond.methodLink RX0 153 yX0_standingIn, Cond.instanceMethod yX0_standingIn, Cond.selects RX0 yX0_standingIn yX0_standingIn, Cond.code yX0_standingIn cX0_standingIn 8 (some .long), Cond.fieldLink RX0 7 "EditGraph" "eventCount" "I", Cond.fieldLink RX0 20 "EditGraph" "targets" "[I", Cond.constantLong RX0 112 (-1), Cond.methodLink RX0 101 yX0_has, Cond.static yX0_has, Cond.code yX0_has cX0_has 3 (some .boolean), Cond.methodLink RX0 143 yX0_only, Cond.static yX0_only, Cond.code yX0_only cX0_only 1 (some .long), Cond.methodLink RX0 146 yX0_isInsert, Cond.instanceMethod yX0_isInsert, Cond.selects RX0 yX0_isInsert yX0_isInsert, Cond.code yX0_isInsert cX0_isInsert 2 (some .boolean), Cond.fieldLink RX0 17 "EditGraph" "letters" "[I", Cond.methodLink RX0 156 yX0_putWaiting, Cond.instanceMethod yX0_putWaiting, Cond.selects RX0 yX0_putWaiting yX0_putWaiting, Cond.code yX0_putWaiting cX0_putWaiting 3 (some .int)]
def wsL_eventAt_r3 : List Cond := [Cond.methodLink RX0 131 yX0_isEvent, Cond.instanceMethod yX0_isEvent, Cond.selects RX0 yX0_isEvent yX0_isEvent, Cond.code yX0_isEvent cX0_isEvent 2 (some .boolean), Cond.methodLink RX0 160 yX0_putText, Cond.instanceMethod yX0_putText, Cond.selects RX0 yX0_putText yX0_putText, Cond.code yX0_putText cX0_putText 5 (some .int), Cond.methodLink RX0 62 yX0_checkPlace, Cond.instanceMethod yX0_checkPlace, Cond.selects RX0 yX0_checkPlace yX0_checkPlace, Cond.code yX0_checkPlace cX0_checkPlace 3 none]
def wsL_eventAt : List Cond := .codeWith yL_eventAt cL_eventAt 5 (some .int) [(0, 10, 13, 13)] :: ((wsL_eventAt_r1 ++ (wsL_eventAt_r2 ++ wsL_eventAt_r3)) ++ wsX00 ++ (vx_atS RX0 130 "java/lang/IndexOutOfBoundsException" ["java/lang/RuntimeException", "java/lang/Exception"]).filter goodWord)
def wsL_lengthOf_r1 : List Cond := [Cond.classLink RL 13 "java/lang/IndexOutOfBoundsException", Cond.methodLink RL 42 yX0_lengthOf, Cond.instanceMethod yX0_lengthOf, Cond.selects RX0 yX0_lengthOf yX0_lengthOf, Cond.initialized RX0, Cond.code yX0_lengthOf cX0_lengthOf 2 (some .int), Cond.methodLink RX0 87 yX0_checkEvent, Cond.instanceMethod yX0_checkEvent, Cond.selects RX0 yX0_checkEvent yX0_checkEvent, Cond.code yX0_checkEvent cX0_checkEvent 2 none, Cond.classLink RX0 126 "java/lang/IndexOutOfBoundsException", Cond.initialized "java/lang/IndexOutOfBoundsException", Cond.methodLink RX0 131 yX0_isEvent, Cond.instanceMethod yX0_isEvent, Cond.selects RX0 yX0_isEvent yX0_isEvent, Cond.code yX0_isEvent cX0_isEvent 2 (some .boolean), Cond.fieldLink RX0 7 "EditGraph" "eventCount" "I", Cond.methodLink RX0 90 yX0_versionOfEvent, Cond.instanceMethod yX0_versionOfEvent, Cond.selects RX0 yX0_versionOfEvent yX0_versionOfEvent, Cond.code yX0_versionOfEvent cX0_versionOfEvent 2 (some .long), Cond.fieldLink RX0 27 "EditGraph" "ancestorSets" "[J", Cond.methodLink RX0 143 yX0_only, Cond.static yX0_only]
def wsL_lengthOf_r2 : List Cond := [Cond.code yX0_only cX0_only 1 (some .long), Cond.methodLink RX0 58 yX0_findText, Cond.instanceMethod yX0_findText, Cond.selects RX0 yX0_findText yX0_findText, Cond.code yX0_findText cX0_findText 9 (some .int), Cond.fieldLink RX0 36 "EditGraph" "firstAtBeginning" "I", Cond.fieldLink RX0 48 "EditGraph" "waiting" "[I", Cond.fieldLink RX0 42 "EditGraph" "nextBeside" "[I", Cond.fieldLink RX0 39 "EditGraph" "firstHanging" "[I", Cond.methodLink RX0 153 yX0_standingIn, Cond.instanceMethod yX0_standingIn, Cond.selects RX0 yX0_standingIn yX0_standingIn, Cond.code yX0_standingIn cX0_standingIn 8 (some .long), Cond.fieldLink RX0 20 "EditGraph" "targets" "[I", Cond.constantLong RX0 112 (-1), Cond.methodLink RX0 101 yX0_has, Cond.static yX0_has, Cond.code yX0_has cX0_has 3 (some .boolean), Cond.methodLink RX0 146 yX0_isInsert, Cond.instanceMethod yX0_isInsert, Cond.selects RX0 yX0_isInsert yX0_isInsert, Cond.code yX0_isInsert cX0_isInsert 2 (some .boolean), Cond.fieldLink RX0 17 "EditGraph" "letters" "[I", Cond.methodLink RX0 156 yX0_putWaiting]
def wsL_lengthOf_r3 : List Cond := [Cond.instanceMethod yX0_putWaiting, Cond.selects RX0 yX0_putWaiting yX0_putWaiting, Cond.code yX0_putWaiting cX0_putWaiting 3 (some .int), Cond.methodLink RX0 160 yX0_putText, Cond.instanceMethod yX0_putText, Cond.selects RX0 yX0_putText yX0_putText, Cond.code yX0_putText cX0_putText 5 (some .int), Cond.fieldLink RX0 45 "EditGraph" "textEvents" "[I"]
def wsL_lengthOf : List Cond := .codeWith yL_lengthOf cL_lengthOf 4 (some .int) [(0, 9, 12, 13)] :: ((wsL_lengthOf_r1 ++ (wsL_lengthOf_r2 ++ wsL_lengthOf_r3)) ++ wsX00 ++ (vx_atS RX0 130 "java/lang/IndexOutOfBoundsException" ["java/lang/RuntimeException", "java/lang/Exception"]).filter goodWord)
def wsL_letterOf_r1 : List Cond := [Cond.classLink RL 13 "java/lang/IndexOutOfBoundsException", Cond.methodLink RL 45 yX0_letterOf, Cond.instanceMethod yX0_letterOf, Cond.selects RX0 yX0_letterOf yX0_letterOf, Cond.initialized RX0, Cond.code yX0_letterOf cX0_letterOf 3 (some .int), Cond.fieldLink RX0 17 "EditGraph" "letters" "[I", Cond.methodLink RX0 87 yX0_checkEvent, Cond.instanceMethod yX0_checkEvent, Cond.selects RX0 yX0_checkEvent yX0_checkEvent, Cond.code yX0_checkEvent cX0_checkEvent 2 none, Cond.classLink RX0 126 "java/lang/IndexOutOfBoundsException", Cond.initialized "java/lang/IndexOutOfBoundsException", Cond.methodLink RX0 131 yX0_isEvent, Cond.instanceMethod yX0_isEvent, Cond.selects RX0 yX0_isEvent yX0_isEvent, Cond.code yX0_isEvent cX0_isEvent 2 (some .boolean), Cond.fieldLink RX0 7 "EditGraph" "eventCount" "I", Cond.methodLink RX0 90 yX0_versionOfEvent, Cond.instanceMethod yX0_versionOfEvent, Cond.selects RX0 yX0_versionOfEvent yX0_versionOfEvent, Cond.code yX0_versionOfEvent cX0_versionOfEvent 2 (some .long), Cond.fieldLink RX0 27 "EditGraph" "ancestorSets" "[J", Cond.methodLink RX0 143 yX0_only]
def wsL_letterOf_r2 : List Cond := [Cond.static yX0_only, Cond.code yX0_only cX0_only 1 (some .long), Cond.methodLink RX0 94 yX0_eventInText, Cond.instanceMethod yX0_eventInText, Cond.selects RX0 yX0_eventInText yX0_eventInText, Cond.code yX0_eventInText cX0_eventInText 5 (some .int), Cond.fieldLink RX0 45 "EditGraph" "textEvents" "[I", Cond.methodLink RX0 58 yX0_findText, Cond.instanceMethod yX0_findText, Cond.selects RX0 yX0_findText yX0_findText, Cond.code yX0_findText cX0_findText 9 (some .int), Cond.fieldLink RX0 36 "EditGraph" "firstAtBeginning" "I", Cond.fieldLink RX0 48 "EditGraph" "waiting" "[I", Cond.fieldLink RX0 42 "EditGraph" "nextBeside" "[I", Cond.fieldLink RX0 39 "EditGraph" "firstHanging" "[I", Cond.methodLink RX0 153 yX0_standingIn, Cond.instanceMethod yX0_standingIn, Cond.selects RX0 yX0_standingIn yX0_standingIn, Cond.code yX0_standingIn cX0_standingIn 8 (some .long), Cond.fieldLink RX0 20 "EditGraph" "targets" "[I", Cond.constantLong RX0 112 (-1), Cond.methodLink RX0 101 yX0_has, Cond.static yX0_has, Cond.code yX0_has cX0_has 3 (some .boolean)]
def wsL_letterOf_r3 : List Cond := [Cond.methodLink RX0 146 yX0_isInsert, Cond.instanceMethod yX0_isInsert, Cond.selects RX0 yX0_isInsert yX0_isInsert, Cond.code yX0_isInsert cX0_isInsert 2 (some .boolean), Cond.methodLink RX0 156 yX0_putWaiting, Cond.instanceMethod yX0_putWaiting, Cond.selects RX0 yX0_putWaiting yX0_putWaiting, Cond.code yX0_putWaiting cX0_putWaiting 3 (some .int), Cond.methodLink RX0 160 yX0_putText, Cond.instanceMethod yX0_putText, Cond.selects RX0 yX0_putText yX0_putText, Cond.code yX0_putText cX0_putText 5 (some .int), Cond.methodLink RX0 62 yX0_checkPlace, Cond.instanceMethod yX0_checkPlace, Cond.selects RX0 yX0_checkPlace yX0_checkPlace, Cond.code yX0_checkPlace cX0_checkPlace 3 none]
def wsL_letterOf : List Cond := .codeWith yL_letterOf cL_letterOf 5 (some .int) [(0, 10, 13, 13)] :: ((wsL_letterOf_r1 ++ (wsL_letterOf_r2 ++ wsL_letterOf_r3)) ++ wsX00 ++ (vx_atS RX0 130 "java/lang/IndexOutOfBoundsException" ["java/lang/RuntimeException", "java/lang/Exception"]).filter goodWord)
def wsL_lettersBy_r1 : List Cond := [Cond.classLink RL 13 "java/lang/IndexOutOfBoundsException", Cond.methodLink RL 48 yX0_lettersBy, Cond.instanceMethod yX0_lettersBy, Cond.selects RX0 yX0_lettersBy yX0_lettersBy, Cond.initialized RX0, Cond.code yX0_lettersBy cX0_lettersBy 6 (some .int), Cond.fieldLink RX0 33 "EditGraph" "knownSets" "[J", Cond.fieldLink RX0 13 "EditGraph" "makers" "[I", Cond.fieldLink RX0 45 "EditGraph" "textEvents" "[I", Cond.methodLink RX0 54 yX0_checkAuthor, Cond.instanceMethod yX0_checkAuthor, Cond.selects RX0 yX0_checkAuthor yX0_checkAuthor, Cond.code yX0_checkAuthor cX0_checkAuthor 2 none, Cond.classLink RX0 126 "java/lang/IndexOutOfBoundsException", Cond.initialized "java/lang/IndexOutOfBoundsException", Cond.methodLink RX0 58 yX0_findText, Cond.instanceMethod yX0_findText, Cond.selects RX0 yX0_findText yX0_findText, Cond.code yX0_findText cX0_findText 9 (some .int), Cond.fieldLink RX0 36 "EditGraph" "firstAtBeginning" "I", Cond.fieldLink RX0 48 "EditGraph" "waiting" "[I", Cond.fieldLink RX0 42 "EditGraph" "nextBeside" "[I", Cond.fieldLink RX0 39 "EditGraph" "firstHanging" "[I", Cond.methodLink RX0 153 yX0_standingIn]
def wsL_lettersBy_r2 : List Cond := [Cond.instanceMethod yX0_standingIn, Cond.selects RX0 yX0_standingIn yX0_standingIn, Cond.code yX0_standingIn cX0_standingIn 8 (some .long), Cond.fieldLink RX0 7 "EditGraph" "eventCount" "I", Cond.fieldLink RX0 20 "EditGraph" "targets" "[I", Cond.constantLong RX0 112 (-1), Cond.methodLink RX0 101 yX0_has, Cond.static yX0_has, Cond.code yX0_has cX0_has 3 (some .boolean), Cond.methodLink RX0 143 yX0_only, Cond.static yX0_only, Cond.code yX0_only cX0_only 1 (some .long), Cond.methodLink RX0 146 yX0_isInsert, Cond.instanceMethod yX0_isInsert, Cond.selects RX0 yX0_isInsert yX0_isInsert, Cond.code yX0_isInsert cX0_isInsert 2 (some .boolean), Cond.fieldLink RX0 17 "EditGraph" "letters" "[I", Cond.methodLink RX0 156 yX0_putWaiting, Cond.instanceMethod yX0_putWaiting, Cond.selects RX0 yX0_putWaiting yX0_putWaiting, Cond.code yX0_putWaiting cX0_putWaiting 3 (some .int), Cond.methodLink RX0 131 yX0_isEvent, Cond.instanceMethod yX0_isEvent, Cond.selects RX0 yX0_isEvent yX0_isEvent]
def wsL_lettersBy_r3 : List Cond := [Cond.code yX0_isEvent cX0_isEvent 2 (some .boolean), Cond.methodLink RX0 160 yX0_putText, Cond.instanceMethod yX0_putText, Cond.selects RX0 yX0_putText yX0_putText, Cond.code yX0_putText cX0_putText 5 (some .int)]
def wsL_lettersBy : List Cond := .codeWith yL_lettersBy cL_lettersBy 5 (some .int) [(0, 10, 13, 13)] :: ((wsL_lettersBy_r1 ++ (wsL_lettersBy_r2 ++ wsL_lettersBy_r3)) ++ wsX00 ++ (vx_atS RX0 130 "java/lang/IndexOutOfBoundsException" ["java/lang/RuntimeException", "java/lang/Exception"]).filter goodWord)
def wsL_authorOf : List Cond := .codeWith yL_authorOf cL_authorOf 4 (some .int) [(0, 9, 12, 13)] :: ([.classLink RL 13 "java/lang/IndexOutOfBoundsException", .methodLink RL 51 yX0_authorOf, .instanceMethod yX0_authorOf, .selects RX0 yX0_authorOf yX0_authorOf, .initialized RX0, .code yX0_authorOf cX0_authorOf 2 (some .int), .fieldLink RX0 13 "EditGraph" "makers" "[I", .methodLink RX0 87 yX0_checkEvent, .instanceMethod yX0_checkEvent, .selects RX0 yX0_checkEvent yX0_checkEvent, .code yX0_checkEvent cX0_checkEvent 2 none, .classLink RX0 126 "java/lang/IndexOutOfBoundsException", .initialized "java/lang/IndexOutOfBoundsException", .methodLink RX0 131 yX0_isEvent, .instanceMethod yX0_isEvent, .selects RX0 yX0_isEvent yX0_isEvent, .code yX0_isEvent cX0_isEvent 2 (some .boolean), .fieldLink RX0 7 "EditGraph" "eventCount" "I"] ++ wsX00 ++ (vx_atS RX0 130 "java/lang/IndexOutOfBoundsException" ["java/lang/RuntimeException", "java/lang/Exception"]).filter goodWord)
def wsL_parents : List Cond := .codeWith yL_parents cL_parents 4 (some .int) [(0, 8, 11, 13)] :: ([.classLink RL 13 "java/lang/IndexOutOfBoundsException", .methodLink RL 54 yX0_parents, .instanceMethod yX0_parents, .selects RX0 yX0_parents yX0_parents, .initialized RX0, .code yX0_parents cX0_parents 2 (some .long), .fieldLink RX0 23 "EditGraph" "parentSets" "[J", .methodLink RX0 87 yX0_checkEvent, .instanceMethod yX0_checkEvent, .selects RX0 yX0_checkEvent yX0_checkEvent, .code yX0_checkEvent cX0_checkEvent 2 none, .classLink RX0 126 "java/lang/IndexOutOfBoundsException", .initialized "java/lang/IndexOutOfBoundsException", .methodLink RX0 131 yX0_isEvent, .instanceMethod yX0_isEvent, .selects RX0 yX0_isEvent yX0_isEvent, .code yX0_isEvent cX0_isEvent 2 (some .boolean), .fieldLink RX0 7 "EditGraph" "eventCount" "I"] ++ wsX00 ++ (vx_atS RX0 130 "java/lang/IndexOutOfBoundsException" ["java/lang/RuntimeException", "java/lang/Exception"]).filter goodWord)
def wsL_isLater : List Cond := .codeWith yL_isLater cL_isLater 5 (some .int) [(0, 17, 20, 13)] :: ([.classLink RL 13 "java/lang/IndexOutOfBoundsException", .methodLink RL 58 yX0_isLater, .instanceMethod yX0_isLater, .selects RX0 yX0_isLater yX0_isLater, .initialized RX0, .code yX0_isLater cX0_isLater 3 (some .boolean), .fieldLink RX0 27 "EditGraph" "ancestorSets" "[J", .methodLink RX0 87 yX0_checkEvent, .instanceMethod yX0_checkEvent, .selects RX0 yX0_checkEvent yX0_checkEvent, .code yX0_checkEvent cX0_checkEvent 2 none, .classLink RX0 126 "java/lang/IndexOutOfBoundsException", .initialized "java/lang/IndexOutOfBoundsException", .methodLink RX0 131 yX0_isEvent, .instanceMethod yX0_isEvent, .selects RX0 yX0_isEvent yX0_isEvent, .code yX0_isEvent cX0_isEvent 2 (some .boolean), .fieldLink RX0 7 "EditGraph" "eventCount" "I", .methodLink RX0 101 yX0_has, .static yX0_has, .code yX0_has cX0_has 3 (some .boolean), .methodLink RX0 143 yX0_only, .static yX0_only, .code yX0_only cX0_only 1 (some .long)] ++ wsX00 ++ (vx_atS RX0 130 "java/lang/IndexOutOfBoundsException" ["java/lang/RuntimeException", "java/lang/Exception"]).filter goodWord)
def wsL_version : List Cond := .codeWith yL_version cL_version 4 (some .int) [(0, 8, 11, 13)] :: ([.classLink RL 13 "java/lang/IndexOutOfBoundsException", .methodLink RL 62 yX0_version, .instanceMethod yX0_version, .selects RX0 yX0_version yX0_version, .initialized RX0, .code yX0_version cX0_version 2 (some .long), .fieldLink RX0 33 "EditGraph" "knownSets" "[J", .methodLink RX0 54 yX0_checkAuthor, .instanceMethod yX0_checkAuthor, .selects RX0 yX0_checkAuthor yX0_checkAuthor, .code yX0_checkAuthor cX0_checkAuthor 2 none, .classLink RX0 126 "java/lang/IndexOutOfBoundsException", .initialized "java/lang/IndexOutOfBoundsException"] ++ wsX00 ++ (vx_atS RX0 130 "java/lang/IndexOutOfBoundsException" ["java/lang/RuntimeException", "java/lang/Exception"]).filter goodWord)
def wsL_heads_r1 : List Cond := [Cond.classLink RL 13 "java/lang/IndexOutOfBoundsException", Cond.methodLink RL 65 yX0_heads, Cond.instanceMethod yX0_heads, Cond.selects RX0 yX0_heads yX0_heads, Cond.initialized RX0, Cond.code yX0_heads cX0_heads 2 (some .long), Cond.fieldLink RX0 33 "EditGraph" "knownSets" "[J", Cond.methodLink RX0 54 yX0_checkAuthor, Cond.instanceMethod yX0_checkAuthor, Cond.selects RX0 yX0_checkAuthor yX0_checkAuthor, Cond.code yX0_checkAuthor cX0_checkAuthor 2 none, Cond.classLink RX0 126 "java/lang/IndexOutOfBoundsException", Cond.initialized "java/lang/IndexOutOfBoundsException", Cond.methodLink RX0 105 yX0_headsOf, Cond.instanceMethod yX0_headsOf, Cond.selects RX0 yX0_headsOf yX0_headsOf, Cond.code yX0_headsOf cX0_headsOf 6 (some .long), Cond.fieldLink RX0 7 "EditGraph" "eventCount" "I", Cond.fieldLink RX0 23 "EditGraph" "parentSets" "[J", Cond.constantLong RX0 112 (-1), Cond.methodLink RX0 101 yX0_has, Cond.static yX0_has, Cond.code yX0_has cX0_has 3 (some .boolean), Cond.methodLink RX0 143 yX0_only]
def wsL_heads_r2 : List Cond := [Cond.static yX0_only, Cond.code yX0_only cX0_only 1 (some .long)]
def wsL_heads : List Cond := .codeWith yL_heads cL_heads 4 (some .int) [(0, 8, 11, 13)] :: ((wsL_heads_r1 ++ wsL_heads_r2) ++ wsX00 ++ (vx_atS RX0 130 "java/lang/IndexOutOfBoundsException" ["java/lang/RuntimeException", "java/lang/Exception"]).filter goodWord)
def wsL_commonHeads_r1 : List Cond := [Cond.classLink RL 13 "java/lang/IndexOutOfBoundsException", Cond.methodLink RL 68 yX0_commonHeads, Cond.instanceMethod yX0_commonHeads, Cond.selects RX0 yX0_commonHeads yX0_commonHeads, Cond.initialized RX0, Cond.code yX0_commonHeads cX0_commonHeads 3 (some .long), Cond.fieldLink RX0 33 "EditGraph" "knownSets" "[J", Cond.methodLink RX0 54 yX0_checkAuthor, Cond.instanceMethod yX0_checkAuthor, Cond.selects RX0 yX0_checkAuthor yX0_checkAuthor, Cond.code yX0_checkAuthor cX0_checkAuthor 2 none, Cond.classLink RX0 126 "java/lang/IndexOutOfBoundsException", Cond.initialized "java/lang/IndexOutOfBoundsException", Cond.methodLink RX0 105 yX0_headsOf, Cond.instanceMethod yX0_headsOf, Cond.selects RX0 yX0_headsOf yX0_headsOf, Cond.code yX0_headsOf cX0_headsOf 6 (some .long), Cond.fieldLink RX0 7 "EditGraph" "eventCount" "I", Cond.fieldLink RX0 23 "EditGraph" "parentSets" "[J", Cond.constantLong RX0 112 (-1), Cond.methodLink RX0 101 yX0_has, Cond.static yX0_has, Cond.code yX0_has cX0_has 3 (some .boolean), Cond.methodLink RX0 143 yX0_only]
def wsL_commonHeads_r2 : List Cond := [Cond.static yX0_only, Cond.code yX0_only cX0_only 1 (some .long)]
def wsL_commonHeads : List Cond := .codeWith yL_commonHeads cL_commonHeads 5 (some .int) [(0, 9, 12, 13)] :: ((wsL_commonHeads_r1 ++ wsL_commonHeads_r2) ++ wsX00 ++ (vx_atS RX0 130 "java/lang/IndexOutOfBoundsException" ["java/lang/RuntimeException", "java/lang/Exception"]).filter goodWord)
def wsL_concurrent_r1 : List Cond := [Cond.classLink RL 13 "java/lang/IndexOutOfBoundsException", Cond.methodLink RL 72 yX0_concurrent, Cond.instanceMethod yX0_concurrent, Cond.selects RX0 yX0_concurrent yX0_concurrent, Cond.initialized RX0, Cond.code yX0_concurrent cX0_concurrent 6 (some .int), Cond.fieldLink RX0 33 "EditGraph" "knownSets" "[J", Cond.fieldLink RX0 7 "EditGraph" "eventCount" "I", Cond.constantLong RX0 112 (-1), Cond.methodLink RX0 54 yX0_checkAuthor, Cond.instanceMethod yX0_checkAuthor, Cond.selects RX0 yX0_checkAuthor yX0_checkAuthor, Cond.code yX0_checkAuthor cX0_checkAuthor 2 none, Cond.classLink RX0 126 "java/lang/IndexOutOfBoundsException", Cond.initialized "java/lang/IndexOutOfBoundsException", Cond.methodLink RX0 101 yX0_has, Cond.static yX0_has, Cond.code yX0_has cX0_has 3 (some .boolean), Cond.methodLink RX0 143 yX0_only, Cond.static yX0_only, Cond.code yX0_only cX0_only 1 (some .long), Cond.methodLink RX0 109 yX0_relatedTo, Cond.instanceMethod yX0_relatedTo, Cond.selects RX0 yX0_relatedTo yX0_relatedTo]
def wsL_concurrent_r2 : List Cond := [Cond.code yX0_relatedTo cX0_relatedTo 2 (some .long), Cond.fieldLink RX0 30 "EditGraph" "laterSets" "[J", Cond.methodLink RX0 90 yX0_versionOfEvent, Cond.instanceMethod yX0_versionOfEvent, Cond.selects RX0 yX0_versionOfEvent yX0_versionOfEvent, Cond.code yX0_versionOfEvent cX0_versionOfEvent 2 (some .long), Cond.fieldLink RX0 27 "EditGraph" "ancestorSets" "[J", Cond.methodLink RX0 114 yJ13_bitCount_95d88, Cond.static yJ13_bitCount_95d88, Cond.initialized RJ13, Cond.code yJ13_bitCount_95d88 cJ13_bitCount_95d88 2 (some .int), Cond.constantLong RJ13 314 (6148914691236517205), Cond.constantLong RJ13 316 (3689348814741910323), Cond.constantLong RJ13 318 (1085102592571150095)]
def wsL_concurrent : List Cond := .codeWith yL_concurrent cL_concurrent 4 (some .int) [(0, 9, 12, 13)] :: ((wsL_concurrent_r1 ++ wsL_concurrent_r2) ++ wsX00 ++ (vx_atS RX0 130 "java/lang/IndexOutOfBoundsException" ["java/lang/RuntimeException", "java/lang/Exception"]).filter goodWord)
def wsL_critical_r1 : List Cond := [Cond.classLink RL 13 "java/lang/IndexOutOfBoundsException", Cond.methodLink RL 75 yX0_critical, Cond.instanceMethod yX0_critical, Cond.selects RX0 yX0_critical yX0_critical, Cond.initialized RX0, Cond.code yX0_critical cX0_critical 2 (some .long), Cond.fieldLink RX0 33 "EditGraph" "knownSets" "[J", Cond.methodLink RX0 54 yX0_checkAuthor, Cond.instanceMethod yX0_checkAuthor, Cond.selects RX0 yX0_checkAuthor yX0_checkAuthor, Cond.code yX0_checkAuthor cX0_checkAuthor 2 none, Cond.classLink RX0 126 "java/lang/IndexOutOfBoundsException", Cond.initialized "java/lang/IndexOutOfBoundsException", Cond.methodLink RX0 119 yX0_criticalOf, Cond.instanceMethod yX0_criticalOf, Cond.selects RX0 yX0_criticalOf yX0_criticalOf, Cond.code yX0_criticalOf cX0_criticalOf 6 (some .long), Cond.fieldLink RX0 7 "EditGraph" "eventCount" "I", Cond.constantLong RX0 112 (-1), Cond.methodLink RX0 101 yX0_has, Cond.static yX0_has, Cond.code yX0_has cX0_has 3 (some .boolean), Cond.methodLink RX0 143 yX0_only, Cond.static yX0_only]
def wsL_critical_r2 : List Cond := [Cond.code yX0_only cX0_only 1 (some .long), Cond.methodLink RX0 109 yX0_relatedTo, Cond.instanceMethod yX0_relatedTo, Cond.selects RX0 yX0_relatedTo yX0_relatedTo, Cond.code yX0_relatedTo cX0_relatedTo 2 (some .long), Cond.fieldLink RX0 30 "EditGraph" "laterSets" "[J", Cond.methodLink RX0 90 yX0_versionOfEvent, Cond.instanceMethod yX0_versionOfEvent, Cond.selects RX0 yX0_versionOfEvent yX0_versionOfEvent, Cond.code yX0_versionOfEvent cX0_versionOfEvent 2 (some .long), Cond.fieldLink RX0 27 "EditGraph" "ancestorSets" "[J"]
def wsL_critical : List Cond := .codeWith yL_critical cL_critical 4 (some .int) [(0, 8, 11, 13)] :: ((wsL_critical_r1 ++ wsL_critical_r2) ++ wsX00 ++ (vx_atS RX0 130 "java/lang/IndexOutOfBoundsException" ["java/lang/RuntimeException", "java/lang/Exception"]).filter goodWord)
def wsL_toReplay_r1 : List Cond := [Cond.classLink RL 13 "java/lang/IndexOutOfBoundsException", Cond.methodLink RL 78 yX0_toReplay, Cond.instanceMethod yX0_toReplay, Cond.selects RX0 yX0_toReplay yX0_toReplay, Cond.initialized RX0, Cond.code yX0_toReplay cX0_toReplay 9 (some .int), Cond.fieldLink RX0 33 "EditGraph" "knownSets" "[J", Cond.fieldLink RX0 7 "EditGraph" "eventCount" "I", Cond.constantLong RX0 112 (-1), Cond.methodLink RX0 54 yX0_checkAuthor, Cond.instanceMethod yX0_checkAuthor, Cond.selects RX0 yX0_checkAuthor yX0_checkAuthor, Cond.code yX0_checkAuthor cX0_checkAuthor 2 none, Cond.classLink RX0 126 "java/lang/IndexOutOfBoundsException", Cond.initialized "java/lang/IndexOutOfBoundsException", Cond.methodLink RX0 119 yX0_criticalOf, Cond.instanceMethod yX0_criticalOf, Cond.selects RX0 yX0_criticalOf yX0_criticalOf, Cond.code yX0_criticalOf cX0_criticalOf 6 (some .long), Cond.methodLink RX0 101 yX0_has, Cond.static yX0_has, Cond.code yX0_has cX0_has 3 (some .boolean), Cond.methodLink RX0 143 yX0_only, Cond.static yX0_only]
def wsL_toReplay_r2 : List Cond := [Cond.code yX0_only cX0_only 1 (some .long), Cond.methodLink RX0 109 yX0_relatedTo, Cond.instanceMethod yX0_relatedTo, Cond.selects RX0 yX0_relatedTo yX0_relatedTo, Cond.code yX0_relatedTo cX0_relatedTo 2 (some .long), Cond.fieldLink RX0 30 "EditGraph" "laterSets" "[J", Cond.methodLink RX0 90 yX0_versionOfEvent, Cond.instanceMethod yX0_versionOfEvent, Cond.selects RX0 yX0_versionOfEvent yX0_versionOfEvent, Cond.code yX0_versionOfEvent cX0_versionOfEvent 2 (some .long), Cond.fieldLink RX0 27 "EditGraph" "ancestorSets" "[J", Cond.methodLink RX0 114 yJ13_bitCount_95d88, Cond.static yJ13_bitCount_95d88, Cond.initialized RJ13, Cond.code yJ13_bitCount_95d88 cJ13_bitCount_95d88 2 (some .int), Cond.constantLong RJ13 314 (6148914691236517205), Cond.constantLong RJ13 316 (3689348814741910323), Cond.constantLong RJ13 318 (1085102592571150095)]
def wsL_toReplay : List Cond := .codeWith yL_toReplay cL_toReplay 4 (some .int) [(0, 9, 12, 13)] :: ((wsL_toReplay_r1 ++ wsL_toReplay_r2) ++ wsX00 ++ (vx_atS RX0 130 "java/lang/IndexOutOfBoundsException" ["java/lang/RuntimeException", "java/lang/Exception"]).filter goodWord)
def wsL_runs_r1 : List Cond := [Cond.classLink RL 13 "java/lang/IndexOutOfBoundsException", Cond.methodLink RL 81 yX0_runs, Cond.instanceMethod yX0_runs, Cond.selects RX0 yX0_runs yX0_runs, Cond.initialized RX0, Cond.code yX0_runs cX0_runs 6 (some .int), Cond.fieldLink RX0 33 "EditGraph" "knownSets" "[J", Cond.fieldLink RX0 7 "EditGraph" "eventCount" "I", Cond.methodLink RX0 54 yX0_checkAuthor, Cond.instanceMethod yX0_checkAuthor, Cond.selects RX0 yX0_checkAuthor yX0_checkAuthor, Cond.code yX0_checkAuthor cX0_checkAuthor 2 none, Cond.classLink RX0 126 "java/lang/IndexOutOfBoundsException", Cond.initialized "java/lang/IndexOutOfBoundsException", Cond.methodLink RX0 101 yX0_has, Cond.static yX0_has, Cond.code yX0_has cX0_has 3 (some .boolean), Cond.methodLink RX0 143 yX0_only, Cond.static yX0_only, Cond.code yX0_only cX0_only 1 (some .long), Cond.methodLink RX0 122 yX0_continuesRun, Cond.instanceMethod yX0_continuesRun, Cond.selects RX0 yX0_continuesRun yX0_continuesRun, Cond.code yX0_continuesRun cX0_continuesRun 3 (some .boolean)]
def wsL_runs_r2 : List Cond := [Cond.fieldLink RX0 20 "EditGraph" "targets" "[I", Cond.fieldLink RX0 23 "EditGraph" "parentSets" "[J", Cond.fieldLink RX0 13 "EditGraph" "makers" "[I", Cond.methodLink RX0 146 yX0_isInsert, Cond.instanceMethod yX0_isInsert, Cond.selects RX0 yX0_isInsert yX0_isInsert, Cond.code yX0_isInsert cX0_isInsert 2 (some .boolean), Cond.fieldLink RX0 17 "EditGraph" "letters" "[I", Cond.methodLink RX0 131 yX0_isEvent, Cond.instanceMethod yX0_isEvent, Cond.selects RX0 yX0_isEvent yX0_isEvent, Cond.code yX0_isEvent cX0_isEvent 2 (some .boolean)]
def wsL_runs : List Cond := .codeWith yL_runs cL_runs 4 (some .int) [(0, 9, 12, 13)] :: ((wsL_runs_r1 ++ wsL_runs_r2) ++ wsX00 ++ (vx_atS RX0 130 "java/lang/IndexOutOfBoundsException" ["java/lang/RuntimeException", "java/lang/Exception"]).filter goodWord)
def wsL_law0_r1 : List Cond := [Cond.classLink RL 8 RX0, Cond.instantiable RX0 14, Cond.initialized RX0, Cond.classLink RL 85 RX1, Cond.instantiable RX1 10, Cond.initialized RX1, Cond.arrayClass .long, Cond.methodLink RL 84 yX0_init, Cond.instanceMethod yX0_init, Cond.code yX0_init cX0_init 1 none, Cond.methodLink RX0 1 objectInit, Cond.instanceMethod objectInit, Cond.code objectInit ⟨#[0xb1]⟩ 1 none, Cond.fieldLink RX0 7 "EditGraph" "eventCount" "I", Cond.arrayClass .int, Cond.fieldLink RX0 13 "EditGraph" "makers" "[I", Cond.fieldLink RX0 17 "EditGraph" "letters" "[I", Cond.fieldLink RX0 20 "EditGraph" "targets" "[I", Cond.fieldLink RX0 23 "EditGraph" "parentSets" "[J", Cond.fieldLink RX0 27 "EditGraph" "ancestorSets" "[J", Cond.fieldLink RX0 30 "EditGraph" "laterSets" "[J", Cond.fieldLink RX0 33 "EditGraph" "knownSets" "[J", Cond.fieldLink RX0 36 "EditGraph" "firstAtBeginning" "I", Cond.fieldLink RX0 39 "EditGraph" "firstHanging" "[I"]
def wsL_law0_r2 : List Cond := [Cond.fieldLink RX0 42 "EditGraph" "nextBeside" "[I", Cond.fieldLink RX0 45 "EditGraph" "textEvents" "[I", Cond.fieldLink RX0 48 "EditGraph" "waiting" "[I", Cond.fieldLink RX0 51 "EditGraph" "behind" "[I", Cond.methodLink RL 87 yX1_init, Cond.instanceMethod yX1_init, Cond.code yX1_init cX1_init 1 none, Cond.methodLink RX1 1 objectInit, Cond.fieldLink RX1 7 "EditGraphModel" "authorOf" "[I", Cond.fieldLink RX1 13 "EditGraphModel" "letter" "[I", Cond.fieldLink RX1 16 "EditGraphModel" "at" "[I", Cond.fieldLink RX1 19 "EditGraphModel" "parents" "[J", Cond.fieldLink RX1 23 "EditGraphModel" "ancestors" "[J", Cond.fieldLink RX1 26 "EditGraphModel" "knows" "[J", Cond.fieldLink RX1 29 "EditGraphModel" "row" "[I", Cond.methodLink RL 88 yL_insert, Cond.static yL_insert, Cond.initialized RL, Cond.codeWith yL_insert cL_insert 6 (some .int) [(0, 12, 15, 13), (0, 12, 19, 15), (0, 12, 23, 17)], Cond.classLink RL 13 "java/lang/IndexOutOfBoundsException", Cond.classLink RL 15 "java/lang/IllegalArgumentException", Cond.classLink RL 17 "java/lang/IllegalStateException", Cond.methodLink RL 7 yX0_insert, Cond.instanceMethod yX0_insert]
def wsL_law0_r3 : List Cond := [Cond.selects RX0 yX0_insert yX0_insert, Cond.code yX0_insert cX0_insert 7 (some .int), Cond.classLink RX0 66 "java/lang/IllegalArgumentException", Cond.initialized "java/lang/IllegalArgumentException", Cond.methodLink RX0 54 yX0_checkAuthor, Cond.instanceMethod yX0_checkAuthor, Cond.selects RX0 yX0_checkAuthor yX0_checkAuthor, Cond.code yX0_checkAuthor cX0_checkAuthor 2 none, Cond.classLink RX0 126 "java/lang/IndexOutOfBoundsException", Cond.initialized "java/lang/IndexOutOfBoundsException", Cond.methodLink RX0 58 yX0_findText, Cond.instanceMethod yX0_findText, Cond.selects RX0 yX0_findText yX0_findText, Cond.code yX0_findText cX0_findText 9 (some .int), Cond.methodLink RX0 153 yX0_standingIn, Cond.instanceMethod yX0_standingIn, Cond.selects RX0 yX0_standingIn yX0_standingIn, Cond.code yX0_standingIn cX0_standingIn 8 (some .long), Cond.constantLong RX0 112 (-1), Cond.methodLink RX0 101 yX0_has, Cond.static yX0_has, Cond.code yX0_has cX0_has 3 (some .boolean), Cond.methodLink RX0 143 yX0_only, Cond.static yX0_only]
def wsL_law0_r4 : List Cond := [Cond.code yX0_only cX0_only 1 (some .long), Cond.methodLink RX0 146 yX0_isInsert, Cond.instanceMethod yX0_isInsert, Cond.selects RX0 yX0_isInsert yX0_isInsert, Cond.code yX0_isInsert cX0_isInsert 2 (some .boolean), Cond.methodLink RX0 156 yX0_putWaiting, Cond.instanceMethod yX0_putWaiting, Cond.selects RX0 yX0_putWaiting yX0_putWaiting, Cond.code yX0_putWaiting cX0_putWaiting 3 (some .int), Cond.methodLink RX0 131 yX0_isEvent, Cond.instanceMethod yX0_isEvent, Cond.selects RX0 yX0_isEvent yX0_isEvent, Cond.code yX0_isEvent cX0_isEvent 2 (some .boolean), Cond.methodLink RX0 160 yX0_putText, Cond.instanceMethod yX0_putText, Cond.selects RX0 yX0_putText yX0_putText, Cond.code yX0_putText cX0_putText 5 (some .int), Cond.methodLink RX0 62 yX0_checkPlace, Cond.instanceMethod yX0_checkPlace, Cond.selects RX0 yX0_checkPlace yX0_checkPlace, Cond.code yX0_checkPlace cX0_checkPlace 3 none, Cond.methodLink RX0 73 yX0_checkRoom, Cond.instanceMethod yX0_checkRoom, Cond.selects RX0 yX0_checkRoom yX0_checkRoom]
def wsL_law0_r5 : List Cond := [Cond.code yX0_checkRoom cX0_checkRoom 1 none, Cond.classLink RX0 138 "java/lang/IllegalStateException", Cond.initialized "java/lang/IllegalStateException", Cond.methodLink RX0 76 yX0_addEvent, Cond.instanceMethod yX0_addEvent, Cond.selects RX0 yX0_addEvent yX0_addEvent, Cond.code yX0_addEvent cX0_addEvent 7 (some .int), Cond.methodLink RX0 105 yX0_headsOf, Cond.instanceMethod yX0_headsOf, Cond.selects RX0 yX0_headsOf yX0_headsOf, Cond.code yX0_headsOf cX0_headsOf 6 (some .long), Cond.methodLink RX0 149 yX0_markLater, Cond.instanceMethod yX0_markLater, Cond.selects RX0 yX0_markLater yX0_markLater, Cond.code yX0_markLater cX0_markLater 5 none, Cond.methodLink RX0 80 yX0_hangLetter, Cond.instanceMethod yX0_hangLetter, Cond.selects RX0 yX0_hangLetter yX0_hangLetter, Cond.code yX0_hangLetter cX0_hangLetter 3 none, Cond.methodLink RL 93 yX1_insert, Cond.instanceMethod yX1_insert, Cond.selects RX1 yX1_insert yX1_insert, Cond.code yX1_insert cX1_insert 5 (some .int), Cond.fieldLink RX1 49 "EditGraphModel" "length" "I"]
def wsL_law0_r6 : List Cond := [Cond.fieldLink RX1 40 "EditGraphModel" "events" "I", Cond.methodLink RX1 64 yX1_looks, Cond.instanceMethod yX1_looks, Cond.selects RX1 yX1_looks yX1_looks, Cond.code yX1_looks cX1_looks 3 (some .boolean), Cond.methodLink RX1 56 yX1_isAuthor, Cond.static yX1_isAuthor, Cond.code yX1_isAuthor cX1_isAuthor 1 (some .boolean), Cond.methodLink RX1 36 yX1_in, Cond.static yX1_in, Cond.code yX1_in cX1_in 3 (some .boolean), Cond.methodLink RX1 60 yX1_reads, Cond.instanceMethod yX1_reads, Cond.selects RX1 yX1_reads yX1_reads, Cond.code yX1_reads cX1_reads 7 none, Cond.methodLink RX1 43 yX1_has, Cond.static yX1_has, Cond.code yX1_has cX1_has 3 (some .boolean), Cond.methodLink RX1 67 yX1_asked__, Cond.instanceMethod yX1_asked__, Cond.selects RX1 yX1_asked__ yX1_asked__, Cond.code yX1_asked__ cX1_asked__ 4 (some .boolean), Cond.fieldLink RX1 32 "EditGraphModel" "thrown" "I", Cond.methodLink RX1 71 yX1_makes]
def wsL_law0_r7 : List Cond := [Cond.instanceMethod yX1_makes, Cond.selects RX1 yX1_makes yX1_makes, Cond.code yX1_makes cX1_makes 4 (some .int), Cond.methodLink RX1 52 yX1_headsOf, Cond.instanceMethod yX1_headsOf, Cond.selects RX1 yX1_headsOf yX1_headsOf, Cond.code yX1_headsOf cX1_headsOf 6 (some .long), Cond.constantLong RX1 47 (-1), Cond.methodLink RL 94 yX1_thrown, Cond.instanceMethod yX1_thrown, Cond.selects RX1 yX1_thrown yX1_thrown, Cond.code yX1_thrown cX1_thrown 1 (some .int), Cond.methodLink RL 98 yL_delete, Cond.static yL_delete, Cond.codeWith yL_delete cL_delete 5 (some .int) [(0, 10, 13, 13), (0, 10, 17, 17)], Cond.methodLink RL 19 yX0_delete, Cond.instanceMethod yX0_delete, Cond.selects RX0 yX0_delete yX0_delete, Cond.code yX0_delete cX0_delete 4 (some .int), Cond.methodLink RL 101 yX1_delete, Cond.instanceMethod yX1_delete, Cond.selects RX1 yX1_delete yX1_delete, Cond.code yX1_delete cX1_delete 4 (some .int), Cond.methodLink RX1 75 yX1_asked_]
def wsL_law0_r8 : List Cond := [Cond.instanceMethod yX1_asked_, Cond.selects RX1 yX1_asked_ yX1_asked_, Cond.code yX1_asked_ cX1_asked_ 3 (some .boolean), Cond.methodLink RL 102 yL_learn, Cond.static yL_learn, Cond.codeWith yL_learn cL_learn 5 (some .int) [(0, 10, 13, 13)], Cond.methodLink RL 23 yX0_learn, Cond.instanceMethod yX0_learn, Cond.selects RX0 yX0_learn yX0_learn, Cond.code yX0_learn cX0_learn 3 (some .int), Cond.methodLink RX0 83 yX0_addKnown, Cond.instanceMethod yX0_addKnown, Cond.selects RX0 yX0_addKnown yX0_addKnown, Cond.code yX0_addKnown cX0_addKnown 5 (some .int), Cond.methodLink RX0 114 yJ13_bitCount_95d88, Cond.static yJ13_bitCount_95d88, Cond.initialized RJ13, Cond.code yJ13_bitCount_95d88 cJ13_bitCount_95d88 2 (some .int), Cond.constantLong RJ13 314 (6148914691236517205), Cond.constantLong RJ13 316 (3689348814741910323), Cond.constantLong RJ13 318 (1085102592571150095), Cond.methodLink RL 104 yX1_learn, Cond.instanceMethod yX1_learn, Cond.selects RX1 yX1_learn yX1_learn]
def wsL_law0_r9 : List Cond := [Cond.code yX1_learn cX1_learn 3 (some .int), Cond.methodLink RX1 82 yX1_asked, Cond.instanceMethod yX1_asked, Cond.selects RX1 yX1_asked yX1_asked, Cond.code yX1_asked cX1_asked 2 (some .boolean), Cond.methodLink RX1 85 yX1_learns, Cond.instanceMethod yX1_learns, Cond.selects RX1 yX1_learns yX1_learns, Cond.code yX1_learns cX1_learns 5 (some .int), Cond.methodLink RX1 78 yX1_count, Cond.instanceMethod yX1_count, Cond.selects RX1 yX1_count yX1_count, Cond.code yX1_count cX1_count 5 (some .int), Cond.methodLink RL 105 yL_learnEvent, Cond.static yL_learnEvent, Cond.codeWith yL_learnEvent cL_learnEvent 5 (some .int) [(0, 10, 13, 13)], Cond.methodLink RL 26 yX0_learnEvent, Cond.instanceMethod yX0_learnEvent, Cond.selects RX0 yX0_learnEvent yX0_learnEvent, Cond.code yX0_learnEvent cX0_learnEvent 3 (some .int), Cond.methodLink RX0 87 yX0_checkEvent, Cond.instanceMethod yX0_checkEvent, Cond.selects RX0 yX0_checkEvent yX0_checkEvent, Cond.code yX0_checkEvent cX0_checkEvent 2 none]
def wsL_law0_r10 : List Cond := [Cond.methodLink RX0 90 yX0_versionOfEvent, Cond.instanceMethod yX0_versionOfEvent, Cond.selects RX0 yX0_versionOfEvent yX0_versionOfEvent, Cond.code yX0_versionOfEvent cX0_versionOfEvent 2 (some .long), Cond.methodLink RL 107 yX1_learnEvent, Cond.instanceMethod yX1_learnEvent, Cond.selects RX1 yX1_learnEvent yX1_learnEvent, Cond.code yX1_learnEvent cX1_learnEvent 3 (some .int), Cond.methodLink RX1 89 yX1_isEvent, Cond.instanceMethod yX1_isEvent, Cond.selects RX1 yX1_isEvent yX1_isEvent, Cond.code yX1_isEvent cX1_isEvent 2 (some .boolean), Cond.methodLink RX1 92 yX1_versionOf, Cond.instanceMethod yX1_versionOf, Cond.selects RX1 yX1_versionOf yX1_versionOf, Cond.code yX1_versionOf cX1_versionOf 2 (some .long), Cond.methodLink RL 108 yX0_events, Cond.instanceMethod yX0_events, Cond.selects RX0 yX0_events yX0_events, Cond.code yX0_events cX0_events 1 (some .int), Cond.methodLink RL 111 yX1_events, Cond.instanceMethod yX1_events, Cond.selects RX1 yX1_events yX1_events, Cond.code yX1_events cX1_events 1 (some .int)]
def wsL_law0_r11 : List Cond := [Cond.methodLink RL 112 yL_length, Cond.static yL_length, Cond.codeWith yL_length cL_length 4 (some .int) [(0, 9, 12, 13)], Cond.methodLink RL 29 yX0_length, Cond.instanceMethod yX0_length, Cond.selects RX0 yX0_length yX0_length, Cond.code yX0_length cX0_length 2 (some .int), Cond.methodLink RL 115 yX1_length, Cond.instanceMethod yX1_length, Cond.selects RX1 yX1_length yX1_length, Cond.code yX1_length cX1_length 2 (some .int), Cond.methodLink RL 116 yL_letterAt, Cond.static yL_letterAt, Cond.codeWith yL_letterAt cL_letterAt 5 (some .int) [(0, 10, 13, 13)], Cond.methodLink RL 33 yX0_letterAt, Cond.instanceMethod yX0_letterAt, Cond.selects RX0 yX0_letterAt yX0_letterAt, Cond.code yX0_letterAt cX0_letterAt 3 (some .int), Cond.methodLink RX0 94 yX0_eventInText, Cond.instanceMethod yX0_eventInText, Cond.selects RX0 yX0_eventInText yX0_eventInText, Cond.code yX0_eventInText cX0_eventInText 5 (some .int), Cond.methodLink RL 118 yX1_letterAt, Cond.instanceMethod yX1_letterAt]
def wsL_law0_r12 : List Cond := [Cond.selects RX1 yX1_letterAt yX1_letterAt, Cond.code yX1_letterAt cX1_letterAt 3 (some .int), Cond.methodLink RL 119 yL_letterByList, Cond.static yL_letterByList, Cond.codeWith yL_letterByList cL_letterByList 5 (some .int) [(0, 10, 13, 13)], Cond.methodLink RL 36 yX0_letterByList, Cond.instanceMethod yX0_letterByList, Cond.selects RX0 yX0_letterByList yX0_letterByList, Cond.code yX0_letterByList cX0_letterByList 4 (some .int), Cond.methodLink RX0 98 yX0_findTextByList, Cond.instanceMethod yX0_findTextByList, Cond.selects RX0 yX0_findTextByList yX0_findTextByList, Cond.code yX0_findTextByList cX0_findTextByList 8 (some .int), Cond.methodLink RX0 164 yX0_layList, Cond.instanceMethod yX0_layList, Cond.selects RX0 yX0_layList yX0_layList, Cond.code yX0_layList cX0_layList 6 (some .int), Cond.methodLink RL 121 yX1_letterByList, Cond.instanceMethod yX1_letterByList, Cond.selects RX1 yX1_letterByList yX1_letterByList, Cond.code yX1_letterByList cX1_letterByList 3 (some .int), Cond.methodLink RX1 96 yX1_letterAt, Cond.methodLink RL 122 yL_eventAt, Cond.static yL_eventAt]
def wsL_law0_r13 : List Cond := [Cond.codeWith yL_eventAt cL_eventAt 5 (some .int) [(0, 10, 13, 13)], Cond.methodLink RL 39 yX0_eventAt, Cond.instanceMethod yX0_eventAt, Cond.selects RX0 yX0_eventAt yX0_eventAt, Cond.code yX0_eventAt cX0_eventAt 3 (some .int), Cond.methodLink RL 124 yX1_eventAt, Cond.instanceMethod yX1_eventAt, Cond.selects RX1 yX1_eventAt yX1_eventAt, Cond.code yX1_eventAt cX1_eventAt 3 (some .int), Cond.methodLink RL 125 yL_lengthOf, Cond.static yL_lengthOf, Cond.codeWith yL_lengthOf cL_lengthOf 4 (some .int) [(0, 9, 12, 13)], Cond.methodLink RL 42 yX0_lengthOf, Cond.instanceMethod yX0_lengthOf, Cond.selects RX0 yX0_lengthOf yX0_lengthOf, Cond.code yX0_lengthOf cX0_lengthOf 2 (some .int), Cond.methodLink RL 127 yX1_lengthOf, Cond.instanceMethod yX1_lengthOf, Cond.selects RX1 yX1_lengthOf yX1_lengthOf, Cond.code yX1_lengthOf cX1_lengthOf 2 (some .int), Cond.methodLink RX1 100 yX1_looksAt, Cond.instanceMethod yX1_looksAt, Cond.selects RX1 yX1_looksAt yX1_looksAt, Cond.code yX1_looksAt cX1_looksAt 3 (some .boolean)]
def wsL_law0_r14 : List Cond := [Cond.methodLink RL 128 yL_letterOf, Cond.static yL_letterOf, Cond.codeWith yL_letterOf cL_letterOf 5 (some .int) [(0, 10, 13, 13)], Cond.methodLink RL 45 yX0_letterOf, Cond.instanceMethod yX0_letterOf, Cond.selects RX0 yX0_letterOf yX0_letterOf, Cond.code yX0_letterOf cX0_letterOf 3 (some .int), Cond.methodLink RL 130 yX1_letterOf, Cond.instanceMethod yX1_letterOf, Cond.selects RX1 yX1_letterOf yX1_letterOf, Cond.code yX1_letterOf cX1_letterOf 3 (some .int), Cond.methodLink RL 131 yL_lettersBy, Cond.static yL_lettersBy, Cond.codeWith yL_lettersBy cL_lettersBy 5 (some .int) [(0, 10, 13, 13)], Cond.methodLink RL 48 yX0_lettersBy, Cond.instanceMethod yX0_lettersBy, Cond.selects RX0 yX0_lettersBy yX0_lettersBy, Cond.code yX0_lettersBy cX0_lettersBy 6 (some .int), Cond.methodLink RL 133 yX1_lettersBy, Cond.instanceMethod yX1_lettersBy, Cond.selects RX1 yX1_lettersBy yX1_lettersBy, Cond.code yX1_lettersBy cX1_lettersBy 6 (some .int), Cond.methodLink RL 134 yL_authorOf, Cond.static yL_authorOf]
def wsL_law0_r15 : List Cond := [Cond.codeWith yL_authorOf cL_authorOf 4 (some .int) [(0, 9, 12, 13)], Cond.methodLink RL 51 yX0_authorOf, Cond.instanceMethod yX0_authorOf, Cond.selects RX0 yX0_authorOf yX0_authorOf, Cond.code yX0_authorOf cX0_authorOf 2 (some .int), Cond.methodLink RL 136 yX1_authorOf, Cond.instanceMethod yX1_authorOf, Cond.selects RX1 yX1_authorOf yX1_authorOf, Cond.code yX1_authorOf cX1_authorOf 2 (some .int), Cond.methodLink RL 137 yL_parents, Cond.static yL_parents, Cond.codeWith yL_parents cL_parents 4 (some .int) [(0, 8, 11, 13)], Cond.methodLink RL 54 yX0_parents, Cond.instanceMethod yX0_parents, Cond.selects RX0 yX0_parents yX0_parents, Cond.code yX0_parents cX0_parents 2 (some .long), Cond.methodLink RL 139 yX1_parents, Cond.instanceMethod yX1_parents, Cond.selects RX1 yX1_parents yX1_parents, Cond.code yX1_parents cX1_parents 2 (some .long), Cond.methodLink RL 140 yL_isLater, Cond.static yL_isLater, Cond.codeWith yL_isLater cL_isLater 5 (some .int) [(0, 17, 20, 13)], Cond.methodLink RL 58 yX0_isLater]
def wsL_law0_r16 : List Cond := [Cond.instanceMethod yX0_isLater, Cond.selects RX0 yX0_isLater yX0_isLater, Cond.code yX0_isLater cX0_isLater 3 (some .boolean), Cond.methodLink RL 142 yX1_isLater, Cond.instanceMethod yX1_isLater, Cond.selects RX1 yX1_isLater yX1_isLater, Cond.code yX1_isLater cX1_isLater 3 (some .boolean), Cond.methodLink RL 143 yL_version, Cond.static yL_version, Cond.codeWith yL_version cL_version 4 (some .int) [(0, 8, 11, 13)], Cond.methodLink RL 62 yX0_version, Cond.instanceMethod yX0_version, Cond.selects RX0 yX0_version yX0_version, Cond.code yX0_version cX0_version 2 (some .long), Cond.methodLink RL 145 yX1_version, Cond.instanceMethod yX1_version, Cond.selects RX1 yX1_version yX1_version, Cond.code yX1_version cX1_version 2 (some .long), Cond.methodLink RL 146 yL_heads, Cond.static yL_heads, Cond.codeWith yL_heads cL_heads 4 (some .int) [(0, 8, 11, 13)], Cond.methodLink RL 65 yX0_heads, Cond.instanceMethod yX0_heads, Cond.selects RX0 yX0_heads yX0_heads]
def wsL_law0_r17 : List Cond := [Cond.code yX0_heads cX0_heads 2 (some .long), Cond.methodLink RL 148 yX1_heads, Cond.instanceMethod yX1_heads, Cond.selects RX1 yX1_heads yX1_heads, Cond.code yX1_heads cX1_heads 2 (some .long), Cond.methodLink RL 149 yL_commonHeads, Cond.static yL_commonHeads, Cond.codeWith yL_commonHeads cL_commonHeads 5 (some .int) [(0, 9, 12, 13)], Cond.methodLink RL 68 yX0_commonHeads, Cond.instanceMethod yX0_commonHeads, Cond.selects RX0 yX0_commonHeads yX0_commonHeads, Cond.code yX0_commonHeads cX0_commonHeads 3 (some .long), Cond.methodLink RL 151 yX1_commonHeads, Cond.instanceMethod yX1_commonHeads, Cond.selects RX1 yX1_commonHeads yX1_commonHeads, Cond.code yX1_commonHeads cX1_commonHeads 3 (some .long), Cond.methodLink RL 152 yL_concurrent, Cond.static yL_concurrent, Cond.codeWith yL_concurrent cL_concurrent 4 (some .int) [(0, 9, 12, 13)], Cond.methodLink RL 72 yX0_concurrent, Cond.instanceMethod yX0_concurrent, Cond.selects RX0 yX0_concurrent yX0_concurrent, Cond.code yX0_concurrent cX0_concurrent 6 (some .int), Cond.methodLink RX0 109 yX0_relatedTo]
def wsL_law0_r18 : List Cond := [Cond.instanceMethod yX0_relatedTo, Cond.selects RX0 yX0_relatedTo yX0_relatedTo, Cond.code yX0_relatedTo cX0_relatedTo 2 (some .long), Cond.methodLink RL 154 yX1_concurrent, Cond.instanceMethod yX1_concurrent, Cond.selects RX1 yX1_concurrent yX1_concurrent, Cond.code yX1_concurrent cX1_concurrent 6 (some .int), Cond.methodLink RX1 103 yX1_areConcurrent, Cond.instanceMethod yX1_areConcurrent, Cond.selects RX1 yX1_areConcurrent yX1_areConcurrent, Cond.code yX1_areConcurrent cX1_areConcurrent 3 (some .boolean), Cond.methodLink RL 155 yL_critical, Cond.static yL_critical, Cond.codeWith yL_critical cL_critical 4 (some .int) [(0, 8, 11, 13)], Cond.methodLink RL 75 yX0_critical, Cond.instanceMethod yX0_critical, Cond.selects RX0 yX0_critical yX0_critical, Cond.code yX0_critical cX0_critical 2 (some .long), Cond.methodLink RX0 119 yX0_criticalOf, Cond.instanceMethod yX0_criticalOf, Cond.selects RX0 yX0_criticalOf yX0_criticalOf, Cond.code yX0_criticalOf cX0_criticalOf 6 (some .long), Cond.methodLink RL 157 yX1_critical, Cond.instanceMethod yX1_critical]
def wsL_law0_r19 : List Cond := [Cond.selects RX1 yX1_critical yX1_critical, Cond.code yX1_critical cX1_critical 2 (some .long), Cond.methodLink RX1 107 yX1_criticals, Cond.instanceMethod yX1_criticals, Cond.selects RX1 yX1_criticals yX1_criticals, Cond.code yX1_criticals cX1_criticals 7 (some .long), Cond.methodLink RL 158 yL_toReplay, Cond.static yL_toReplay, Cond.codeWith yL_toReplay cL_toReplay 4 (some .int) [(0, 9, 12, 13)], Cond.methodLink RL 78 yX0_toReplay, Cond.instanceMethod yX0_toReplay, Cond.selects RX0 yX0_toReplay yX0_toReplay, Cond.code yX0_toReplay cX0_toReplay 9 (some .int), Cond.methodLink RL 160 yX1_toReplay, Cond.instanceMethod yX1_toReplay, Cond.selects RX1 yX1_toReplay yX1_toReplay, Cond.code yX1_toReplay cX1_toReplay 7 (some .int), Cond.methodLink RL 161 yL_runs, Cond.static yL_runs, Cond.codeWith yL_runs cL_runs 4 (some .int) [(0, 9, 12, 13)], Cond.methodLink RL 81 yX0_runs, Cond.instanceMethod yX0_runs, Cond.selects RX0 yX0_runs yX0_runs, Cond.code yX0_runs cX0_runs 6 (some .int)]
def wsL_law0_r20 : List Cond := [Cond.methodLink RX0 122 yX0_continuesRun, Cond.instanceMethod yX0_continuesRun, Cond.selects RX0 yX0_continuesRun yX0_continuesRun, Cond.code yX0_continuesRun cX0_continuesRun 3 (some .boolean), Cond.methodLink RL 163 yX1_runs, Cond.instanceMethod yX1_runs, Cond.selects RX1 yX1_runs yX1_runs, Cond.code yX1_runs cX1_runs 5 (some .int), Cond.methodLink RX1 110 yX1_goesOn, Cond.instanceMethod yX1_goesOn, Cond.selects RX1 yX1_goesOn yX1_goesOn, Cond.code yX1_goesOn cX1_goesOn 3 (some .boolean)]
def wsL_law0 : List Cond := (wsL_law0_r1 ++ (wsL_law0_r2 ++ (wsL_law0_r3 ++ (wsL_law0_r4 ++ (wsL_law0_r5 ++ (wsL_law0_r6 ++ (wsL_law0_r7 ++ (wsL_law0_r8 ++ (wsL_law0_r9 ++ (wsL_law0_r10 ++ (wsL_law0_r11 ++ (wsL_law0_r12 ++ (wsL_law0_r13 ++ (wsL_law0_r14 ++ (wsL_law0_r15 ++ (wsL_law0_r16 ++ (wsL_law0_r17 ++ (wsL_law0_r18 ++ (wsL_law0_r19 ++ wsL_law0_r20))))))))))))))))))) ++ wsX00 ++ wsX10 ++ ([] : List Cond)
def wsL_law : List Cond := wsL_law0 ++ (vx_atS RX0 70 "java/lang/IllegalArgumentException" ["java/lang/RuntimeException", "java/lang/Exception"]).filter goodWord ++ (vx_atS RX0 130 "java/lang/IndexOutOfBoundsException" ["java/lang/RuntimeException", "java/lang/Exception"]).filter goodWord ++ (vx_atS RX0 142 "java/lang/IllegalStateException" ["java/lang/RuntimeException", "java/lang/Exception"]).filter goodWord
abbrev vwCl : List vw_C := [(RX0, TX0, 14), (RX1, TX1, 10)]
end
section
set_option maxRecDepth 20000 in
theorem wsL_law_in0_r1 : ∀ w ∈ wsL_law0_r1, w ∈ lw_tbl := fun w h => (goodIn_p wsL_law0_r1 [52, 55] (by decide +kernel) (by decide +kernel) w h).1
set_option maxRecDepth 20000 in
theorem wsL_law_in0_r2 : ∀ w ∈ wsL_law0_r2, w ∈ lw_tbl := fun w h => (goodIn_p wsL_law0_r2 [462] (by decide +kernel) (by decide +kernel) w h).1
set_option maxRecDepth 20000 in
theorem wsL_law_in0_r3 : ∀ w ∈ wsL_law0_r3, w ∈ lw_tbl := fun w h => (goodIn_p wsL_law0_r3 [114, 118, 190, 194, 197] (by decide +kernel) (by decide +kernel) w h).1
set_option maxRecDepth 20000 in
theorem wsL_law_in0_r4 : ∀ w ∈ wsL_law0_r4, w ∈ lw_tbl := fun w h => (goodIn_p wsL_law0_r4 [200, 204, 209, 213, 217, 221] (by decide +kernel) (by decide +kernel) w h).1
set_option maxRecDepth 20000 in
theorem wsL_law_in0_r5 : ∀ w ∈ wsL_law0_r5, w ∈ lw_tbl := fun w h => (goodIn_p wsL_law0_r5 [242, 262, 266, 270, 274, 502] (by decide +kernel) (by decide +kernel) w h).1
set_option maxRecDepth 20000 in
theorem wsL_law_in0_r6 : ∀ w ∈ wsL_law0_r6, w ∈ lw_tbl := fun w h => (goodIn_p wsL_law0_r6 [506, 509, 512, 516, 519, 523] (by decide +kernel) (by decide +kernel) w h).1
set_option maxRecDepth 20000 in
theorem wsL_law_in0_r7 : ∀ w ∈ wsL_law0_r7, w ∈ lw_tbl := fun w h => (goodIn_p wsL_law0_r7 [527, 531, 498, 281, 536] (by decide +kernel) (by decide +kernel) w h).1
set_option maxRecDepth 20000 in
theorem wsL_law_in0_r8 : ∀ w ∈ wsL_law0_r8, w ∈ lw_tbl := fun w h => (goodIn_p wsL_law0_r8 [540, 288, 292, 295] (by decide +kernel) (by decide +kernel) w h).1
set_option maxRecDepth 20000 in
theorem wsL_law_in0_r9 : ∀ w ∈ wsL_law0_r9, w ∈ lw_tbl := fun w h => (goodIn_p wsL_law0_r9 [544, 548, 552, 556, 305, 309] (by decide +kernel) (by decide +kernel) w h).1
set_option maxRecDepth 20000 in
theorem wsL_law_in0_r10 : ∀ w ∈ wsL_law0_r10, w ∈ lw_tbl := fun w h => (goodIn_p wsL_law0_r10 [314, 560, 564, 568, 104, 572] (by decide +kernel) (by decide +kernel) w h).1
set_option maxRecDepth 20000 in
theorem wsL_law_in0_r11 : ∀ w ∈ wsL_law0_r11, w ∈ lw_tbl := fun w h => (goodIn_p wsL_law0_r11 [321, 576, 328, 332] (by decide +kernel) (by decide +kernel) w h).1
set_option maxRecDepth 20000 in
theorem wsL_law_in0_r12 : ∀ w ∈ wsL_law0_r12, w ∈ lw_tbl := fun w h => (goodIn_p wsL_law0_r12 [580, 339, 343, 347, 584] (by decide +kernel) (by decide +kernel) w h).1
set_option maxRecDepth 20000 in
theorem wsL_law_in0_r13 : ∀ w ∈ wsL_law0_r13, w ∈ lw_tbl := fun w h => (goodIn_p wsL_law0_r13 [354, 589, 361, 593, 597] (by decide +kernel) (by decide +kernel) w h).1
set_option maxRecDepth 20000 in
theorem wsL_law_in0_r14 : ∀ w ∈ wsL_law0_r14, w ∈ lw_tbl := fun w h => (goodIn_p wsL_law0_r14 [368, 601, 375, 605] (by decide +kernel) (by decide +kernel) w h).1
set_option maxRecDepth 20000 in
theorem wsL_law_in0_r15 : ∀ w ∈ wsL_law0_r15, w ∈ lw_tbl := fun w h => (goodIn_p wsL_law0_r15 [382, 609, 389, 613] (by decide +kernel) (by decide +kernel) w h).1
set_option maxRecDepth 20000 in
theorem wsL_law_in0_r16 : ∀ w ∈ wsL_law0_r16, w ∈ lw_tbl := fun w h => (goodIn_p wsL_law0_r16 [396, 617, 403, 621] (by decide +kernel) (by decide +kernel) w h).1
set_option maxRecDepth 20000 in
theorem wsL_law_in0_r17 : ∀ w ∈ wsL_law0_r17, w ∈ lw_tbl := fun w h => (goodIn_p wsL_law0_r17 [410, 625, 417, 629, 424] (by decide +kernel) (by decide +kernel) w h).1
set_option maxRecDepth 20000 in
theorem wsL_law_in0_r18 : ∀ w ∈ wsL_law0_r18, w ∈ lw_tbl := fun w h => (goodIn_p wsL_law0_r18 [428, 633, 637, 435, 439] (by decide +kernel) (by decide +kernel) w h).1
set_option maxRecDepth 20000 in
theorem wsL_law_in0_r19 : ∀ w ∈ wsL_law0_r19, w ∈ lw_tbl := fun w h => (goodIn_p wsL_law0_r19 [641, 645, 446, 649, 453] (by decide +kernel) (by decide +kernel) w h).1
set_option maxRecDepth 20000 in
theorem wsL_law_in0_r20 : ∀ w ∈ wsL_law0_r20, w ∈ lw_tbl := fun w h => (goodIn_p wsL_law0_r20 [457, 653, 657] (by decide +kernel) (by decide +kernel) w h).1
theorem wsL_law_in0_x0 : ∀ w ∈ wsX00, w ∈ lw_tbl := by decide +kernel
theorem wsL_law_in0_x1 : ∀ w ∈ wsX10, w ∈ lw_tbl := by decide +kernel
theorem wsL_law_in0 : ∀ w ∈ wsL_law0, w ∈ lw_tbl := List.forall_mem_append.mpr ⟨List.forall_mem_append.mpr ⟨List.forall_mem_append.mpr ⟨List.forall_mem_append.mpr ⟨wsL_law_in0_r1, List.forall_mem_append.mpr ⟨wsL_law_in0_r2, List.forall_mem_append.mpr ⟨wsL_law_in0_r3, List.forall_mem_append.mpr ⟨wsL_law_in0_r4, List.forall_mem_append.mpr ⟨wsL_law_in0_r5, List.forall_mem_append.mpr ⟨wsL_law_in0_r6, List.forall_mem_append.mpr ⟨wsL_law_in0_r7, List.forall_mem_append.mpr ⟨wsL_law_in0_r8, List.forall_mem_append.mpr ⟨wsL_law_in0_r9, List.forall_mem_append.mpr ⟨wsL_law_in0_r10, List.forall_mem_append.mpr ⟨wsL_law_in0_r11, List.forall_mem_append.mpr ⟨wsL_law_in0_r12, List.forall_mem_append.mpr ⟨wsL_law_in0_r13, List.forall_mem_append.mpr ⟨wsL_law_in0_r14, List.forall_mem_append.mpr ⟨wsL_law_in0_r15, List.forall_mem_append.mpr ⟨wsL_law_in0_r16, List.forall_mem_append.mpr ⟨wsL_law_in0_r17, List.forall_mem_append.mpr ⟨wsL_law_in0_r18, List.forall_mem_append.mpr ⟨wsL_law_in0_r19, wsL_law_in0_r20⟩⟩⟩⟩⟩⟩⟩⟩⟩⟩⟩⟩⟩⟩⟩⟩⟩⟩⟩, wsL_law_in0_x0⟩, wsL_law_in0_x1⟩, fun _ h => nomatch h⟩
theorem wsL_law_x0 : ∀ w ∈ (vx_atS RX0 70 "java/lang/IllegalArgumentException" ["java/lang/RuntimeException", "java/lang/Exception"]).filter goodWord, w ∈ lw_tbl := by decide +kernel
theorem wsL_law_x1 : ∀ w ∈ (vx_atS RX0 130 "java/lang/IndexOutOfBoundsException" ["java/lang/RuntimeException", "java/lang/Exception"]).filter goodWord, w ∈ lw_tbl := by decide +kernel
theorem wsL_law_x2 : ∀ w ∈ (vx_atS RX0 142 "java/lang/IllegalStateException" ["java/lang/RuntimeException", "java/lang/Exception"]).filter goodWord, w ∈ lw_tbl := by decide +kernel
theorem wsL_law_in : ∀ w ∈ wsL_law, w ∈ lw_tbl := fun w h => (List.mem_append.mp h).elim (fun h => (List.mem_append.mp h).elim (fun h => (List.mem_append.mp h).elim (fun h => wsL_law_in0 w h) (fun h => wsL_law_x0 w h)) (fun h => wsL_law_x1 w h)) (fun h => wsL_law_x2 w h)
theorem inlX0 : ∀ w ∈ wsX00, w ∈ wsL_law := fun _ h => List.mem_append_left _ (List.mem_append_left _ (List.mem_append_left _ (List.mem_append_left _ (List.mem_append_left _ (List.mem_append_right _ h)))))
theorem inX0 : ∀ w ∈ wsX00, w ∈ lw_tbl := fun w h => wsL_law_in w (inlX0 w h)
theorem inlX1 : ∀ w ∈ wsX10, w ∈ wsL_law := fun _ h => List.mem_append_left _ (List.mem_append_left _ (List.mem_append_left _ (List.mem_append_left _ (List.mem_append_right _ h))))
theorem inX1 : ∀ w ∈ wsX10, w ∈ lw_tbl := fun w h => wsL_law_in w (inlX1 w h)
theorem inJ13 : ∀ w ∈ wsJ130, w ∈ lw_tbl := by decide +kernel
theorem inJ0 : ∀ w ∈ wsJ00, w ∈ lw_tbl := by decide +kernel
end
section
theorem dX0_init_0 : decode cX0_init 0 = .ok (.aload_n 0, 1) := by decide +kernel
theorem dX0_init_1 : decode cX0_init 1 = .ok (.invokespecial 1, 3) := by decide +kernel
theorem dX0_init_4 : decode cX0_init 4 = .ok (.aload_n 0, 1) := by decide +kernel
theorem dX0_init_5 : decode cX0_init 5 = .ok (.iconst 0, 1) := by decide +kernel
theorem dX0_init_6 : decode cX0_init 6 = .ok (.putfield 7, 3) := by decide +kernel
theorem dX0_init_9 : decode cX0_init 9 = .ok (.aload_n 0, 1) := by decide +kernel
theorem dX0_init_10 : decode cX0_init 10 = .ok (.bipush 60, 2) := by decide +kernel
theorem dX0_init_12 : decode cX0_init 12 = .ok (.newarray .int, 2) := by decide +kernel
theorem dX0_init_14 : decode cX0_init 14 = .ok (.putfield 13, 3) := by decide +kernel
theorem dX0_init_17 : decode cX0_init 17 = .ok (.aload_n 0, 1) := by decide +kernel
theorem dX0_init_18 : decode cX0_init 18 = .ok (.bipush 60, 2) := by decide +kernel
theorem dX0_init_20 : decode cX0_init 20 = .ok (.newarray .int, 2) := by decide +kernel
theorem dX0_init_22 : decode cX0_init 22 = .ok (.putfield 17, 3) := by decide +kernel
theorem dX0_init_25 : decode cX0_init 25 = .ok (.aload_n 0, 1) := by decide +kernel
theorem dX0_init_26 : decode cX0_init 26 = .ok (.bipush 60, 2) := by decide +kernel
theorem dX0_init_28 : decode cX0_init 28 = .ok (.newarray .int, 2) := by decide +kernel
theorem dX0_init_30 : decode cX0_init 30 = .ok (.putfield 20, 3) := by decide +kernel
theorem dX0_init_33 : decode cX0_init 33 = .ok (.aload_n 0, 1) := by decide +kernel
theorem dX0_init_34 : decode cX0_init 34 = .ok (.bipush 60, 2) := by decide +kernel
theorem dX0_init_36 : decode cX0_init 36 = .ok (.newarray .long, 2) := by decide +kernel
theorem dX0_init_38 : decode cX0_init 38 = .ok (.putfield 23, 3) := by decide +kernel
theorem dX0_init_41 : decode cX0_init 41 = .ok (.aload_n 0, 1) := by decide +kernel
theorem dX0_init_42 : decode cX0_init 42 = .ok (.bipush 60, 2) := by decide +kernel
theorem dX0_init_44 : decode cX0_init 44 = .ok (.newarray .long, 2) := by decide +kernel
theorem dX0_init_46 : decode cX0_init 46 = .ok (.putfield 27, 3) := by decide +kernel
theorem dX0_init_49 : decode cX0_init 49 = .ok (.aload_n 0, 1) := by decide +kernel
theorem dX0_init_50 : decode cX0_init 50 = .ok (.bipush 60, 2) := by decide +kernel
theorem dX0_init_52 : decode cX0_init 52 = .ok (.newarray .long, 2) := by decide +kernel
theorem dX0_init_54 : decode cX0_init 54 = .ok (.putfield 30, 3) := by decide +kernel
theorem dX0_init_57 : decode cX0_init 57 = .ok (.aload_n 0, 1) := by decide +kernel
theorem dX0_init_58 : decode cX0_init 58 = .ok (.iconst 4, 1) := by decide +kernel
theorem dX0_init_59 : decode cX0_init 59 = .ok (.newarray .long, 2) := by decide +kernel
theorem dX0_init_61 : decode cX0_init 61 = .ok (.putfield 33, 3) := by decide +kernel
theorem dX0_init_64 : decode cX0_init 64 = .ok (.aload_n 0, 1) := by decide +kernel
theorem dX0_init_65 : decode cX0_init 65 = .ok (.iconst (-1), 1) := by decide +kernel
theorem dX0_init_66 : decode cX0_init 66 = .ok (.putfield 36, 3) := by decide +kernel
theorem dX0_init_69 : decode cX0_init 69 = .ok (.aload_n 0, 1) := by decide +kernel
theorem dX0_init_70 : decode cX0_init 70 = .ok (.bipush 60, 2) := by decide +kernel
theorem dX0_init_72 : decode cX0_init 72 = .ok (.newarray .int, 2) := by decide +kernel
theorem dX0_init_74 : decode cX0_init 74 = .ok (.putfield 39, 3) := by decide +kernel
theorem dX0_init_77 : decode cX0_init 77 = .ok (.aload_n 0, 1) := by decide +kernel
theorem dX0_init_78 : decode cX0_init 78 = .ok (.bipush 60, 2) := by decide +kernel
theorem dX0_init_80 : decode cX0_init 80 = .ok (.newarray .int, 2) := by decide +kernel
theorem dX0_init_82 : decode cX0_init 82 = .ok (.putfield 42, 3) := by decide +kernel
theorem dX0_init_85 : decode cX0_init 85 = .ok (.aload_n 0, 1) := by decide +kernel
theorem dX0_init_86 : decode cX0_init 86 = .ok (.bipush 60, 2) := by decide +kernel
theorem dX0_init_88 : decode cX0_init 88 = .ok (.newarray .int, 2) := by decide +kernel
theorem dX0_init_90 : decode cX0_init 90 = .ok (.putfield 45, 3) := by decide +kernel
theorem dX0_init_93 : decode cX0_init 93 = .ok (.aload_n 0, 1) := by decide +kernel
theorem dX0_init_94 : decode cX0_init 94 = .ok (.bipush 60, 2) := by decide +kernel
theorem dX0_init_96 : decode cX0_init 96 = .ok (.newarray .int, 2) := by decide +kernel
theorem dX0_init_98 : decode cX0_init 98 = .ok (.putfield 48, 3) := by decide +kernel
theorem dX0_init_101 : decode cX0_init 101 = .ok (.aload_n 0, 1) := by decide +kernel
theorem dX0_init_102 : decode cX0_init 102 = .ok (.bipush 60, 2) := by decide +kernel
theorem dX0_init_104 : decode cX0_init 104 = .ok (.newarray .int, 2) := by decide +kernel
theorem dX0_init_106 : decode cX0_init 106 = .ok (.putfield 51, 3) := by decide +kernel
theorem dX0_init_109 : decode cX0_init 109 = .ok (.return_, 1) := by decide +kernel
set_option maxRecDepth 20000 in
theorem ggX0_insert_X0_checkAuthor : GoodIn wsX0_insert wsX0_checkAuthor := goodIn_ca (goodIn_r _ [9, 10, 11] (by decide +kernel) (by decide +kernel)) (goodIn_sub (fun _ h => List.mem_cons_of_mem _ (List.mem_append_left _ (List.mem_append_right _ h))) (by decide +kernel))
set_option maxRecDepth 20000 in
theorem gX0_insert_X0_checkAuthor : GoodIn wsX0_insert (wsV RX0 54 RX0 yX0_checkAuthor wsX0_checkAuthor) := goodIn_app (goodIn_of _ (by decide +kernel)) ggX0_insert_X0_checkAuthor
set_option maxRecDepth 20000 in
theorem ggX0_insert_X0_findText : GoodIn wsX0_insert wsX0_findText := goodIn_r _ [15, 16, 17, 18, 19, 20, 21, 22, 8, 23, 24, 25, 26, 27, 28, 29, 30, 31, 32, 33, 34, 35, 36, 37, 38, 39, 40, 41, 42, 43, 44, 45, 46, 47, 48, 49, 4, 80, 81, 82, 83, 84, 85, 86, 87, 88, 89, 90, 91, 92, 93] (by decide +kernel) (by decide +kernel)
set_option maxRecDepth 20000 in
theorem gX0_insert_X0_findText : GoodIn wsX0_insert (wsV RX0 58 RX0 yX0_findText wsX0_findText) := goodIn_app (goodIn_of _ (by decide +kernel)) ggX0_insert_X0_findText
set_option maxRecDepth 20000 in
theorem ggX0_insert_X0_checkPlace : GoodIn wsX0_insert wsX0_checkPlace := goodIn_ca (goodIn_r _ [53, 10, 11] (by decide +kernel) (by decide +kernel)) (goodIn_sub (fun _ h => List.mem_cons_of_mem _ (List.mem_append_left _ (List.mem_append_right _ h))) (by decide +kernel))
set_option maxRecDepth 20000 in
theorem gX0_insert_X0_checkPlace : GoodIn wsX0_insert (wsV RX0 62 RX0 yX0_checkPlace wsX0_checkPlace) := goodIn_app (goodIn_of _ (by decide +kernel)) ggX0_insert_X0_checkPlace
set_option maxRecDepth 20000 in
theorem ggX0_insert_X0_checkRoom : GoodIn wsX0_insert wsX0_checkRoom := goodIn_ca (goodIn_r _ [57, 58, 59, 24, 80, 81, 82, 83, 84, 85, 86, 87, 88, 89, 90, 91, 92, 93] (by decide +kernel) (by decide +kernel)) (goodIn_sub (fun _ h => List.mem_cons_of_mem _ (List.mem_append_right _ h)) (by decide +kernel))
set_option maxRecDepth 20000 in
theorem gX0_insert_X0_checkRoom : GoodIn wsX0_insert (wsV RX0 73 RX0 yX0_checkRoom wsX0_checkRoom) := goodIn_app (goodIn_of _ (by decide +kernel)) ggX0_insert_X0_checkRoom
set_option maxRecDepth 20000 in
theorem ggX0_insert_X0_addEvent : GoodIn wsX0_insert wsX0_addEvent := goodIn_r _ [63, 24, 3, 64, 37, 25, 65, 66, 67, 68, 69, 8, 70, 26, 27, 28, 29, 30, 31, 32, 71, 72, 73, 74, 75, 80, 81, 82, 83, 84, 85, 86, 87, 88, 89, 90, 91, 92, 93] (by decide +kernel) (by decide +kernel)
set_option maxRecDepth 20000 in
theorem gX0_insert_X0_addEvent : GoodIn wsX0_insert (wsV RX0 76 RX0 yX0_addEvent wsX0_addEvent) := goodIn_app (goodIn_of _ (by decide +kernel)) ggX0_insert_X0_addEvent
set_option maxRecDepth 20000 in
theorem ggX0_insert_X0_hangLetter : GoodIn wsX0_insert wsX0_hangLetter := goodIn_r _ [79, 19, 18, 16, 42, 43, 44, 8, 45, 24, 80, 81, 82, 83, 84, 85, 86, 87, 88, 89, 90, 91, 92, 93] (by decide +kernel) (by decide +kernel)
set_option maxRecDepth 20000 in
theorem gX0_insert_X0_hangLetter : GoodIn wsX0_insert (wsV RX0 80 RX0 yX0_hangLetter wsX0_hangLetter) := goodIn_app (goodIn_of _ (by decide +kernel)) ggX0_insert_X0_hangLetter
theorem dX0_insert_0 : decode cX0_insert 0 = .ok (.aload_n 0, 1) := by decide +kernel
theorem dX0_insert_1 : decode cX0_insert 1 = .ok (.iload_n 1, 1) := by decide +kernel
theorem dX0_insert_2 : decode cX0_insert 2 = .ok (.invokevirtual 54, 3) := by decide +kernel
theorem dX0_insert_5 : decode cX0_insert 5 = .ok (.aload_n 0, 1) := by decide +kernel
theorem dX0_insert_6 : decode cX0_insert 6 = .ok (.aload_n 0, 1) := by decide +kernel
theorem dX0_insert_7 : decode cX0_insert 7 = .ok (.getfield 33, 3) := by decide +kernel
theorem dX0_insert_10 : decode cX0_insert 10 = .ok (.iload_n 1, 1) := by decide +kernel
theorem dX0_insert_11 : decode cX0_insert 11 = .ok (.laload, 1) := by decide +kernel
theorem dX0_insert_12 : decode cX0_insert 12 = .ok (.invokevirtual 58, 3) := by decide +kernel
theorem dX0_insert_15 : decode cX0_insert 15 = .ok (.istore 4, 2) := by decide +kernel
theorem dX0_insert_17 : decode cX0_insert 17 = .ok (.aload_n 0, 1) := by decide +kernel
theorem dX0_insert_18 : decode cX0_insert 18 = .ok (.iload_n 2, 1) := by decide +kernel
theorem dX0_insert_19 : decode cX0_insert 19 = .ok (.iload 4, 2) := by decide +kernel
theorem dX0_insert_21 : decode cX0_insert 21 = .ok (.iconst 1, 1) := by decide +kernel
theorem dX0_insert_22 : decode cX0_insert 22 = .ok (.iadd, 1) := by decide +kernel
theorem dX0_insert_23 : decode cX0_insert 23 = .ok (.invokevirtual 62, 3) := by decide +kernel
theorem dX0_insert_26 : decode cX0_insert 26 = .ok (.iload_n 3, 1) := by decide +kernel
theorem dX0_insert_27 : decode cX0_insert 27 = .ok (.ifCond .lt 9, 3) := by decide +kernel
theorem dX0_insert_30 : decode cX0_insert 30 = .ok (.iload_n 3, 1) := by decide +kernel
theorem dX0_insert_31 : decode cX0_insert 31 = .ok (.bipush 26, 2) := by decide +kernel
theorem dX0_insert_33 : decode cX0_insert 33 = .ok (.if_icmp .lt 13, 3) := by decide +kernel
theorem dX0_insert_36 : decode cX0_insert 36 = .ok (.new 66, 3) := by decide +kernel
theorem dX0_insert_39 : decode cX0_insert 39 = .ok (.dup, 1) := by decide +kernel
theorem dX0_insert_40 : decode cX0_insert 40 = .ok (.ldc 68, 2) := by decide +kernel
theorem dX0_insert_42 : decode cX0_insert 42 = .ok (.invokespecial 70, 3) := by decide +kernel
theorem dX0_insert_45 : decode cX0_insert 45 = .ok (.athrow, 1) := by decide +kernel
theorem dX0_insert_46 : decode cX0_insert 46 = .ok (.aload_n 0, 1) := by decide +kernel
theorem dX0_insert_47 : decode cX0_insert 47 = .ok (.invokevirtual 73, 3) := by decide +kernel
theorem dX0_insert_50 : decode cX0_insert 50 = .ok (.iload_n 2, 1) := by decide +kernel
theorem dX0_insert_51 : decode cX0_insert 51 = .ok (.ifCond .ne 7, 3) := by decide +kernel
theorem dX0_insert_54 : decode cX0_insert 54 = .ok (.iconst (-1), 1) := by decide +kernel
theorem dX0_insert_55 : decode cX0_insert 55 = .ok (.goto 11, 3) := by decide +kernel
theorem dX0_insert_58 : decode cX0_insert 58 = .ok (.aload_n 0, 1) := by decide +kernel
theorem dX0_insert_59 : decode cX0_insert 59 = .ok (.getfield 45, 3) := by decide +kernel
theorem dX0_insert_62 : decode cX0_insert 62 = .ok (.iload_n 2, 1) := by decide +kernel
theorem dX0_insert_63 : decode cX0_insert 63 = .ok (.iconst 1, 1) := by decide +kernel
theorem dX0_insert_64 : decode cX0_insert 64 = .ok (.isub, 1) := by decide +kernel
theorem dX0_insert_65 : decode cX0_insert 65 = .ok (.iaload, 1) := by decide +kernel
theorem dX0_insert_66 : decode cX0_insert 66 = .ok (.istore 5, 2) := by decide +kernel
theorem dX0_insert_68 : decode cX0_insert 68 = .ok (.aload_n 0, 1) := by decide +kernel
theorem dX0_insert_69 : decode cX0_insert 69 = .ok (.iload_n 1, 1) := by decide +kernel
theorem dX0_insert_70 : decode cX0_insert 70 = .ok (.iload_n 3, 1) := by decide +kernel
theorem dX0_insert_71 : decode cX0_insert 71 = .ok (.iload 5, 2) := by decide +kernel
theorem dX0_insert_73 : decode cX0_insert 73 = .ok (.invokevirtual 76, 3) := by decide +kernel
theorem dX0_insert_76 : decode cX0_insert 76 = .ok (.istore 6, 2) := by decide +kernel
theorem dX0_insert_78 : decode cX0_insert 78 = .ok (.aload_n 0, 1) := by decide +kernel
theorem dX0_insert_79 : decode cX0_insert 79 = .ok (.iload 6, 2) := by decide +kernel
theorem dX0_insert_81 : decode cX0_insert 81 = .ok (.iload 5, 2) := by decide +kernel
theorem dX0_insert_83 : decode cX0_insert 83 = .ok (.invokevirtual 80, 3) := by decide +kernel
theorem dX0_insert_86 : decode cX0_insert 86 = .ok (.iload 6, 2) := by decide +kernel
theorem dX0_insert_88 : decode cX0_insert 88 = .ok (.ireturn, 1) := by decide +kernel
set_option maxRecDepth 20000 in
theorem ggX0_delete_X0_checkAuthor : GoodIn wsX0_delete wsX0_checkAuthor := goodIn_ca (goodIn_r _ [7, 8, 9] (by decide +kernel) (by decide +kernel)) (goodIn_sub (fun _ h => List.mem_cons_of_mem _ (List.mem_append_left _ (List.mem_append_right _ h))) (by decide +kernel))
set_option maxRecDepth 20000 in
theorem gX0_delete_X0_checkAuthor : GoodIn wsX0_delete (wsV RX0 54 RX0 yX0_checkAuthor wsX0_checkAuthor) := goodIn_app (goodIn_of _ (by decide +kernel)) ggX0_delete_X0_checkAuthor
set_option maxRecDepth 20000 in
theorem ggX0_delete_X0_findText : GoodIn wsX0_delete wsX0_findText := goodIn_r _ [13, 14, 15, 16, 17, 18, 19, 20, 6, 21, 22, 23, 24, 25, 26, 27, 28, 29, 30, 31, 32, 33, 34, 35, 36, 37, 38, 39, 40, 41, 42, 43, 44, 45, 46, 47, 2, 74, 75, 76, 77, 78, 79, 80, 81, 82, 83, 84, 85, 86, 87] (by decide +kernel) (by decide +kernel)
set_option maxRecDepth 20000 in
theorem gX0_delete_X0_findText : GoodIn wsX0_delete (wsV RX0 58 RX0 yX0_findText wsX0_findText) := goodIn_app (goodIn_of _ (by decide +kernel)) ggX0_delete_X0_findText
set_option maxRecDepth 20000 in
theorem ggX0_delete_X0_checkPlace : GoodIn wsX0_delete wsX0_checkPlace := goodIn_ca (goodIn_r _ [51, 8, 9] (by decide +kernel) (by decide +kernel)) (goodIn_sub (fun _ h => List.mem_cons_of_mem _ (List.mem_append_left _ (List.mem_append_right _ h))) (by decide +kernel))
set_option maxRecDepth 20000 in
theorem gX0_delete_X0_checkPlace : GoodIn wsX0_delete (wsV RX0 62 RX0 yX0_checkPlace wsX0_checkPlace) := goodIn_app (goodIn_of _ (by decide +kernel)) ggX0_delete_X0_checkPlace
set_option maxRecDepth 20000 in
theorem ggX0_delete_X0_checkRoom : GoodIn wsX0_delete wsX0_checkRoom := goodIn_ca (goodIn_r _ [55, 56, 57, 22, 74, 75, 76, 77, 78, 79, 80, 81, 82, 83, 84, 85, 86, 87] (by decide +kernel) (by decide +kernel)) (goodIn_sub (fun _ h => List.mem_cons_of_mem _ (List.mem_append_right _ h)) (by decide +kernel))
set_option maxRecDepth 20000 in
theorem gX0_delete_X0_checkRoom : GoodIn wsX0_delete (wsV RX0 73 RX0 yX0_checkRoom wsX0_checkRoom) := goodIn_app (goodIn_of _ (by decide +kernel)) ggX0_delete_X0_checkRoom
set_option maxRecDepth 20000 in
theorem ggX0_delete_X0_addEvent : GoodIn wsX0_delete wsX0_addEvent := goodIn_r _ [61, 22, 1, 62, 35, 23, 63, 64, 65, 66, 67, 6, 68, 24, 25, 26, 27, 28, 29, 30, 69, 70, 71, 72, 73, 74, 75, 76, 77, 78, 79, 80, 81, 82, 83, 84, 85, 86, 87] (by decide +kernel) (by decide +kernel)
set_option maxRecDepth 20000 in
theorem gX0_delete_X0_addEvent : GoodIn wsX0_delete (wsV RX0 76 RX0 yX0_addEvent wsX0_addEvent) := goodIn_app (goodIn_of _ (by decide +kernel)) ggX0_delete_X0_addEvent
theorem dX0_delete_0 : decode cX0_delete 0 = .ok (.aload_n 0, 1) := by decide +kernel
theorem dX0_delete_1 : decode cX0_delete 1 = .ok (.iload_n 1, 1) := by decide +kernel
theorem dX0_delete_2 : decode cX0_delete 2 = .ok (.invokevirtual 54, 3) := by decide +kernel
theorem dX0_delete_5 : decode cX0_delete 5 = .ok (.aload_n 0, 1) := by decide +kernel
theorem dX0_delete_6 : decode cX0_delete 6 = .ok (.aload_n 0, 1) := by decide +kernel
theorem dX0_delete_7 : decode cX0_delete 7 = .ok (.getfield 33, 3) := by decide +kernel
theorem dX0_delete_10 : decode cX0_delete 10 = .ok (.iload_n 1, 1) := by decide +kernel
theorem dX0_delete_11 : decode cX0_delete 11 = .ok (.laload, 1) := by decide +kernel
theorem dX0_delete_12 : decode cX0_delete 12 = .ok (.invokevirtual 58, 3) := by decide +kernel
theorem dX0_delete_15 : decode cX0_delete 15 = .ok (.istore_n 3, 1) := by decide +kernel
theorem dX0_delete_16 : decode cX0_delete 16 = .ok (.aload_n 0, 1) := by decide +kernel
theorem dX0_delete_17 : decode cX0_delete 17 = .ok (.iload_n 2, 1) := by decide +kernel
theorem dX0_delete_18 : decode cX0_delete 18 = .ok (.iload_n 3, 1) := by decide +kernel
theorem dX0_delete_19 : decode cX0_delete 19 = .ok (.invokevirtual 62, 3) := by decide +kernel
theorem dX0_delete_22 : decode cX0_delete 22 = .ok (.aload_n 0, 1) := by decide +kernel
theorem dX0_delete_23 : decode cX0_delete 23 = .ok (.invokevirtual 73, 3) := by decide +kernel
theorem dX0_delete_26 : decode cX0_delete 26 = .ok (.aload_n 0, 1) := by decide +kernel
theorem dX0_delete_27 : decode cX0_delete 27 = .ok (.iload_n 1, 1) := by decide +kernel
theorem dX0_delete_28 : decode cX0_delete 28 = .ok (.iconst (-1), 1) := by decide +kernel
theorem dX0_delete_29 : decode cX0_delete 29 = .ok (.aload_n 0, 1) := by decide +kernel
theorem dX0_delete_30 : decode cX0_delete 30 = .ok (.getfield 45, 3) := by decide +kernel
theorem dX0_delete_33 : decode cX0_delete 33 = .ok (.iload_n 2, 1) := by decide +kernel
theorem dX0_delete_34 : decode cX0_delete 34 = .ok (.iaload, 1) := by decide +kernel
theorem dX0_delete_35 : decode cX0_delete 35 = .ok (.invokevirtual 76, 3) := by decide +kernel
theorem dX0_delete_38 : decode cX0_delete 38 = .ok (.ireturn, 1) := by decide +kernel
set_option maxRecDepth 20000 in
theorem ggX0_learn_X0_checkAuthor : GoodIn wsX0_learn wsX0_checkAuthor := goodIn_ca (goodIn_r _ [6, 7, 8] (by decide +kernel) (by decide +kernel)) (goodIn_sub (fun _ h => List.mem_cons_of_mem _ (List.mem_append_right _ h)) (by decide +kernel))
set_option maxRecDepth 20000 in
theorem gX0_learn_X0_checkAuthor : GoodIn wsX0_learn (wsV RX0 54 RX0 yX0_checkAuthor wsX0_checkAuthor) := goodIn_app (goodIn_of _ (by decide +kernel)) ggX0_learn_X0_checkAuthor
set_option maxRecDepth 20000 in
theorem ggX0_learn_X0_addKnown : GoodIn wsX0_learn wsX0_addKnown := goodIn_r _ [12, 1, 13, 14, 15, 16, 17, 18, 19, 20, 21, 22, 23, 24, 25, 26, 27, 28, 29, 30, 31, 32, 33, 34] (by decide +kernel) (by decide +kernel)
set_option maxRecDepth 20000 in
theorem gX0_learn_X0_addKnown : GoodIn wsX0_learn (wsV RX0 83 RX0 yX0_addKnown wsX0_addKnown) := goodIn_app (goodIn_of _ (by decide +kernel)) ggX0_learn_X0_addKnown
theorem dX0_learn_0 : decode cX0_learn 0 = .ok (.aload_n 0, 1) := by decide +kernel
theorem dX0_learn_1 : decode cX0_learn 1 = .ok (.iload_n 1, 1) := by decide +kernel
theorem dX0_learn_2 : decode cX0_learn 2 = .ok (.invokevirtual 54, 3) := by decide +kernel
theorem dX0_learn_5 : decode cX0_learn 5 = .ok (.aload_n 0, 1) := by decide +kernel
theorem dX0_learn_6 : decode cX0_learn 6 = .ok (.iload_n 2, 1) := by decide +kernel
theorem dX0_learn_7 : decode cX0_learn 7 = .ok (.invokevirtual 54, 3) := by decide +kernel
theorem dX0_learn_10 : decode cX0_learn 10 = .ok (.aload_n 0, 1) := by decide +kernel
theorem dX0_learn_11 : decode cX0_learn 11 = .ok (.iload_n 1, 1) := by decide +kernel
theorem dX0_learn_12 : decode cX0_learn 12 = .ok (.aload_n 0, 1) := by decide +kernel
theorem dX0_learn_13 : decode cX0_learn 13 = .ok (.getfield 33, 3) := by decide +kernel
theorem dX0_learn_16 : decode cX0_learn 16 = .ok (.iload_n 2, 1) := by decide +kernel
theorem dX0_learn_17 : decode cX0_learn 17 = .ok (.laload, 1) := by decide +kernel
theorem dX0_learn_18 : decode cX0_learn 18 = .ok (.invokevirtual 83, 3) := by decide +kernel
theorem dX0_learn_21 : decode cX0_learn 21 = .ok (.ireturn, 1) := by decide +kernel
set_option maxRecDepth 20000 in
theorem ggX0_learnEvent_X0_checkAuthor : GoodIn wsX0_learnEvent wsX0_checkAuthor := goodIn_ca (goodIn_r _ [5, 6, 7] (by decide +kernel) (by decide +kernel)) (goodIn_sub (fun _ h => List.mem_cons_of_mem _ (List.mem_append_right _ h)) (by decide +kernel))
set_option maxRecDepth 20000 in
theorem gX0_learnEvent_X0_checkAuthor : GoodIn wsX0_learnEvent (wsV RX0 54 RX0 yX0_checkAuthor wsX0_checkAuthor) := goodIn_app (goodIn_of _ (by decide +kernel)) ggX0_learnEvent_X0_checkAuthor
set_option maxRecDepth 20000 in
theorem ggX0_learnEvent_X0_checkEvent : GoodIn wsX0_learnEvent wsX0_checkEvent := goodIn_ca (goodIn_r _ [11, 6, 7, 12, 13, 14, 4, 15, 16, 38, 39, 40, 41, 42, 43, 44, 45, 46, 47, 48, 49, 50, 51] (by decide +kernel) (by decide +kernel)) (goodIn_sub (fun _ h => List.mem_cons_of_mem _ (List.mem_append_right _ h)) (by decide +kernel))
set_option maxRecDepth 20000 in
theorem gX0_learnEvent_X0_checkEvent : GoodIn wsX0_learnEvent (wsV RX0 87 RX0 yX0_checkEvent wsX0_checkEvent) := goodIn_app (goodIn_of _ (by decide +kernel)) ggX0_learnEvent_X0_checkEvent
set_option maxRecDepth 20000 in
theorem ggX0_learnEvent_X0_versionOfEvent : GoodIn wsX0_learnEvent wsX0_versionOfEvent := goodIn_r _ [20, 21, 22, 23, 4, 24, 38, 39, 40, 41, 42, 43, 44, 45, 46, 47, 48, 49, 50, 51] (by decide +kernel) (by decide +kernel)
set_option maxRecDepth 20000 in
theorem gX0_learnEvent_X0_versionOfEvent : GoodIn wsX0_learnEvent (wsV RX0 90 RX0 yX0_versionOfEvent wsX0_versionOfEvent) := goodIn_app (goodIn_of _ (by decide +kernel)) ggX0_learnEvent_X0_versionOfEvent
set_option maxRecDepth 20000 in
theorem ggX0_learnEvent_X0_addKnown : GoodIn wsX0_learnEvent wsX0_addKnown := goodIn_r _ [28, 29, 30, 31, 32, 33, 34, 35, 36, 37, 38, 39, 40, 41, 42, 43, 44, 45, 46, 47, 48, 49, 50, 51] (by decide +kernel) (by decide +kernel)
set_option maxRecDepth 20000 in
theorem gX0_learnEvent_X0_addKnown : GoodIn wsX0_learnEvent (wsV RX0 83 RX0 yX0_addKnown wsX0_addKnown) := goodIn_app (goodIn_of _ (by decide +kernel)) ggX0_learnEvent_X0_addKnown
theorem dX0_learnEvent_0 : decode cX0_learnEvent 0 = .ok (.aload_n 0, 1) := by decide +kernel
theorem dX0_learnEvent_1 : decode cX0_learnEvent 1 = .ok (.iload_n 1, 1) := by decide +kernel
theorem dX0_learnEvent_2 : decode cX0_learnEvent 2 = .ok (.invokevirtual 54, 3) := by decide +kernel
theorem dX0_learnEvent_5 : decode cX0_learnEvent 5 = .ok (.aload_n 0, 1) := by decide +kernel
theorem dX0_learnEvent_6 : decode cX0_learnEvent 6 = .ok (.iload_n 2, 1) := by decide +kernel
theorem dX0_learnEvent_7 : decode cX0_learnEvent 7 = .ok (.invokevirtual 87, 3) := by decide +kernel
theorem dX0_learnEvent_10 : decode cX0_learnEvent 10 = .ok (.aload_n 0, 1) := by decide +kernel
theorem dX0_learnEvent_11 : decode cX0_learnEvent 11 = .ok (.iload_n 1, 1) := by decide +kernel
theorem dX0_learnEvent_12 : decode cX0_learnEvent 12 = .ok (.aload_n 0, 1) := by decide +kernel
theorem dX0_learnEvent_13 : decode cX0_learnEvent 13 = .ok (.iload_n 2, 1) := by decide +kernel
theorem dX0_learnEvent_14 : decode cX0_learnEvent 14 = .ok (.invokevirtual 90, 3) := by decide +kernel
theorem dX0_learnEvent_17 : decode cX0_learnEvent 17 = .ok (.invokevirtual 83, 3) := by decide +kernel
theorem dX0_learnEvent_20 : decode cX0_learnEvent 20 = .ok (.ireturn, 1) := by decide +kernel
theorem dX0_events_0 : decode cX0_events 0 = .ok (.aload_n 0, 1) := by decide +kernel
theorem dX0_events_1 : decode cX0_events 1 = .ok (.getfield 7, 3) := by decide +kernel
theorem dX0_events_4 : decode cX0_events 4 = .ok (.ireturn, 1) := by decide +kernel
set_option maxRecDepth 20000 in
theorem ggX0_length_X0_checkAuthor : GoodIn wsX0_length wsX0_checkAuthor := goodIn_ca (goodIn_r _ [6, 7, 8] (by decide +kernel) (by decide +kernel)) (goodIn_sub (fun _ h => List.mem_cons_of_mem _ (List.mem_append_right _ h)) (by decide +kernel))
set_option maxRecDepth 20000 in
theorem gX0_length_X0_checkAuthor : GoodIn wsX0_length (wsV RX0 54 RX0 yX0_checkAuthor wsX0_checkAuthor) := goodIn_app (goodIn_of _ (by decide +kernel)) ggX0_length_X0_checkAuthor
set_option maxRecDepth 20000 in
theorem ggX0_length_X0_findText : GoodIn wsX0_length wsX0_findText := goodIn_r _ [12, 13, 14, 15, 16, 17, 18, 19, 5, 20, 21, 22, 23, 24, 25, 26, 27, 28, 29, 30, 31, 32, 33, 34, 35, 36, 37, 38, 39, 40, 41, 42, 43, 44, 45, 46, 47, 48, 49, 50, 51, 52, 53, 54, 55, 56, 57, 58, 59, 60, 61] (by decide +kernel) (by decide +kernel)
set_option maxRecDepth 20000 in
theorem gX0_length_X0_findText : GoodIn wsX0_length (wsV RX0 58 RX0 yX0_findText wsX0_findText) := goodIn_app (goodIn_of _ (by decide +kernel)) ggX0_length_X0_findText
theorem dX0_length_0 : decode cX0_length 0 = .ok (.aload_n 0, 1) := by decide +kernel
theorem dX0_length_1 : decode cX0_length 1 = .ok (.iload_n 1, 1) := by decide +kernel
theorem dX0_length_2 : decode cX0_length 2 = .ok (.invokevirtual 54, 3) := by decide +kernel
theorem dX0_length_5 : decode cX0_length 5 = .ok (.aload_n 0, 1) := by decide +kernel
theorem dX0_length_6 : decode cX0_length 6 = .ok (.aload_n 0, 1) := by decide +kernel
theorem dX0_length_7 : decode cX0_length 7 = .ok (.getfield 33, 3) := by decide +kernel
theorem dX0_length_10 : decode cX0_length 10 = .ok (.iload_n 1, 1) := by decide +kernel
theorem dX0_length_11 : decode cX0_length 11 = .ok (.laload, 1) := by decide +kernel
theorem dX0_length_12 : decode cX0_length 12 = .ok (.invokevirtual 58, 3) := by decide +kernel
theorem dX0_length_15 : decode cX0_length 15 = .ok (.ireturn, 1) := by decide +kernel
set_option maxRecDepth 20000 in
theorem ggX0_letterAt_X0_checkAuthor : GoodIn wsX0_letterAt wsX0_checkAuthor := goodIn_ca (goodIn_r _ [7, 8, 9] (by decide +kernel) (by decide +kernel)) (goodIn_sub (fun _ h => List.mem_cons_of_mem _ (List.mem_append_right _ h)) (by decide +kernel))
set_option maxRecDepth 20000 in
theorem gX0_letterAt_X0_checkAuthor : GoodIn wsX0_letterAt (wsV RX0 54 RX0 yX0_checkAuthor wsX0_checkAuthor) := goodIn_app (goodIn_of _ (by decide +kernel)) ggX0_letterAt_X0_checkAuthor
set_option maxRecDepth 20000 in
theorem ggX0_letterAt_X0_eventInText : GoodIn wsX0_letterAt wsX0_eventInText := goodIn_ca (goodIn_r _ [13, 14, 15, 16, 17, 6, 18, 19, 20, 21, 22, 23, 24, 25, 26, 27, 28, 29, 30, 31, 32, 33, 34, 35, 36, 37, 38, 39, 1, 40, 41, 42, 43, 44, 45, 46, 47, 48, 49, 50, 51, 52, 53, 54, 55, 8, 9, 56, 57, 58, 59, 60, 61, 62, 63, 64, 65, 66, 67, 68, 69] (by decide +kernel) (by decide +kernel)) (goodIn_sub (fun _ h => List.mem_cons_of_mem _ (List.mem_append_right _ h)) (by decide +kernel))
set_option maxRecDepth 20000 in
theorem gX0_letterAt_X0_eventInText : GoodIn wsX0_letterAt (wsV RX0 94 RX0 yX0_eventInText wsX0_eventInText) := goodIn_app (goodIn_of _ (by decide +kernel)) ggX0_letterAt_X0_eventInText
theorem dX0_letterAt_0 : decode cX0_letterAt 0 = .ok (.aload_n 0, 1) := by decide +kernel
theorem dX0_letterAt_1 : decode cX0_letterAt 1 = .ok (.iload_n 1, 1) := by decide +kernel
theorem dX0_letterAt_2 : decode cX0_letterAt 2 = .ok (.invokevirtual 54, 3) := by decide +kernel
theorem dX0_letterAt_5 : decode cX0_letterAt 5 = .ok (.aload_n 0, 1) := by decide +kernel
theorem dX0_letterAt_6 : decode cX0_letterAt 6 = .ok (.getfield 17, 3) := by decide +kernel
theorem dX0_letterAt_9 : decode cX0_letterAt 9 = .ok (.aload_n 0, 1) := by decide +kernel
theorem dX0_letterAt_10 : decode cX0_letterAt 10 = .ok (.aload_n 0, 1) := by decide +kernel
theorem dX0_letterAt_11 : decode cX0_letterAt 11 = .ok (.getfield 33, 3) := by decide +kernel
theorem dX0_letterAt_14 : decode cX0_letterAt 14 = .ok (.iload_n 1, 1) := by decide +kernel
theorem dX0_letterAt_15 : decode cX0_letterAt 15 = .ok (.laload, 1) := by decide +kernel
theorem dX0_letterAt_16 : decode cX0_letterAt 16 = .ok (.iload_n 2, 1) := by decide +kernel
theorem dX0_letterAt_17 : decode cX0_letterAt 17 = .ok (.invokevirtual 94, 3) := by decide +kernel
theorem dX0_letterAt_20 : decode cX0_letterAt 20 = .ok (.iaload, 1) := by decide +kernel
theorem dX0_letterAt_21 : decode cX0_letterAt 21 = .ok (.ireturn, 1) := by decide +kernel
set_option maxRecDepth 20000 in
theorem ggX0_letterByList_X0_checkAuthor : GoodIn wsX0_letterByList wsX0_checkAuthor := goodIn_ca (goodIn_r _ [8, 9, 10] (by decide +kernel) (by decide +kernel)) (goodIn_sub (fun _ h => List.mem_cons_of_mem _ (List.mem_append_right _ h)) (by decide +kernel))
set_option maxRecDepth 20000 in
theorem gX0_letterByList_X0_checkAuthor : GoodIn wsX0_letterByList (wsV RX0 54 RX0 yX0_checkAuthor wsX0_checkAuthor) := goodIn_app (goodIn_of _ (by decide +kernel)) ggX0_letterByList_X0_checkAuthor
set_option maxRecDepth 20000 in
theorem ggX0_letterByList_X0_findTextByList : GoodIn wsX0_letterByList wsX0_findTextByList := goodIn_r _ [14, 15, 16, 17, 18, 7, 19, 20, 21, 22, 23, 24, 25, 26, 27, 28, 29, 30, 31, 32, 2, 33, 34, 35, 36, 37, 38, 39, 40, 41, 42, 43, 44, 3, 49, 50, 51, 52, 53, 54, 55, 56, 57, 58, 59, 60, 61, 62] (by decide +kernel) (by decide +kernel)
set_option maxRecDepth 20000 in
theorem gX0_letterByList_X0_findTextByList : GoodIn wsX0_letterByList (wsV RX0 98 RX0 yX0_findTextByList wsX0_findTextByList) := goodIn_app (goodIn_of _ (by decide +kernel)) ggX0_letterByList_X0_findTextByList
set_option maxRecDepth 20000 in
theorem ggX0_letterByList_X0_checkPlace : GoodIn wsX0_letterByList wsX0_checkPlace := goodIn_ca (goodIn_r _ [48, 9, 10] (by decide +kernel) (by decide +kernel)) (goodIn_sub (fun _ h => List.mem_cons_of_mem _ (List.mem_append_right _ h)) (by decide +kernel))
set_option maxRecDepth 20000 in
theorem gX0_letterByList_X0_checkPlace : GoodIn wsX0_letterByList (wsV RX0 62 RX0 yX0_checkPlace wsX0_checkPlace) := goodIn_app (goodIn_of _ (by decide +kernel)) ggX0_letterByList_X0_checkPlace
theorem dX0_letterByList_0 : decode cX0_letterByList 0 = .ok (.aload_n 0, 1) := by decide +kernel
theorem dX0_letterByList_1 : decode cX0_letterByList 1 = .ok (.iload_n 1, 1) := by decide +kernel
theorem dX0_letterByList_2 : decode cX0_letterByList 2 = .ok (.invokevirtual 54, 3) := by decide +kernel
theorem dX0_letterByList_5 : decode cX0_letterByList 5 = .ok (.aload_n 0, 1) := by decide +kernel
theorem dX0_letterByList_6 : decode cX0_letterByList 6 = .ok (.aload_n 0, 1) := by decide +kernel
theorem dX0_letterByList_7 : decode cX0_letterByList 7 = .ok (.getfield 33, 3) := by decide +kernel
theorem dX0_letterByList_10 : decode cX0_letterByList 10 = .ok (.iload_n 1, 1) := by decide +kernel
theorem dX0_letterByList_11 : decode cX0_letterByList 11 = .ok (.laload, 1) := by decide +kernel
theorem dX0_letterByList_12 : decode cX0_letterByList 12 = .ok (.invokevirtual 98, 3) := by decide +kernel
theorem dX0_letterByList_15 : decode cX0_letterByList 15 = .ok (.istore_n 3, 1) := by decide +kernel
theorem dX0_letterByList_16 : decode cX0_letterByList 16 = .ok (.aload_n 0, 1) := by decide +kernel
theorem dX0_letterByList_17 : decode cX0_letterByList 17 = .ok (.iload_n 2, 1) := by decide +kernel
theorem dX0_letterByList_18 : decode cX0_letterByList 18 = .ok (.iload_n 3, 1) := by decide +kernel
theorem dX0_letterByList_19 : decode cX0_letterByList 19 = .ok (.invokevirtual 62, 3) := by decide +kernel
theorem dX0_letterByList_22 : decode cX0_letterByList 22 = .ok (.aload_n 0, 1) := by decide +kernel
theorem dX0_letterByList_23 : decode cX0_letterByList 23 = .ok (.getfield 17, 3) := by decide +kernel
theorem dX0_letterByList_26 : decode cX0_letterByList 26 = .ok (.aload_n 0, 1) := by decide +kernel
theorem dX0_letterByList_27 : decode cX0_letterByList 27 = .ok (.getfield 45, 3) := by decide +kernel
theorem dX0_letterByList_30 : decode cX0_letterByList 30 = .ok (.iload_n 2, 1) := by decide +kernel
theorem dX0_letterByList_31 : decode cX0_letterByList 31 = .ok (.iaload, 1) := by decide +kernel
theorem dX0_letterByList_32 : decode cX0_letterByList 32 = .ok (.iaload, 1) := by decide +kernel
theorem dX0_letterByList_33 : decode cX0_letterByList 33 = .ok (.ireturn, 1) := by decide +kernel
set_option maxRecDepth 20000 in
theorem ggX0_eventAt_X0_checkAuthor : GoodIn wsX0_eventAt wsX0_checkAuthor := goodIn_ca (goodIn_r _ [6, 7, 8] (by decide +kernel) (by decide +kernel)) (goodIn_sub (fun _ h => List.mem_cons_of_mem _ (List.mem_append_right _ h)) (by decide +kernel))
set_option maxRecDepth 20000 in
theorem gX0_eventAt_X0_checkAuthor : GoodIn wsX0_eventAt (wsV RX0 54 RX0 yX0_checkAuthor wsX0_checkAuthor) := goodIn_app (goodIn_of _ (by decide +kernel)) ggX0_eventAt_X0_checkAuthor
set_option maxRecDepth 20000 in
theorem ggX0_eventAt_X0_eventInText : GoodIn wsX0_eventAt wsX0_eventInText := goodIn_ca (goodIn_r _ [12, 13, 14, 15, 16, 5, 17, 18, 19, 20, 21, 22, 23, 24, 25, 26, 27, 28, 29, 30, 31, 32, 33, 34, 35, 36, 37, 38, 39, 40, 41, 42, 43, 44, 45, 46, 47, 48, 49, 50, 51, 52, 53, 54, 55, 7, 8, 56, 57, 58, 59, 60, 61, 62, 63, 64, 65, 66, 67, 68, 69] (by decide +kernel) (by decide +kernel)) (goodIn_sub (fun _ h => List.mem_cons_of_mem _ (List.mem_append_right _ h)) (by decide +kernel))
set_option maxRecDepth 20000 in
theorem gX0_eventAt_X0_eventInText : GoodIn wsX0_eventAt (wsV RX0 94 RX0 yX0_eventInText wsX0_eventInText) := goodIn_app (goodIn_of _ (by decide +kernel)) ggX0_eventAt_X0_eventInText
theorem dX0_eventAt_0 : decode cX0_eventAt 0 = .ok (.aload_n 0, 1) := by decide +kernel
theorem dX0_eventAt_1 : decode cX0_eventAt 1 = .ok (.iload_n 1, 1) := by decide +kernel
theorem dX0_eventAt_2 : decode cX0_eventAt 2 = .ok (.invokevirtual 54, 3) := by decide +kernel
theorem dX0_eventAt_5 : decode cX0_eventAt 5 = .ok (.aload_n 0, 1) := by decide +kernel
theorem dX0_eventAt_6 : decode cX0_eventAt 6 = .ok (.aload_n 0, 1) := by decide +kernel
theorem dX0_eventAt_7 : decode cX0_eventAt 7 = .ok (.getfield 33, 3) := by decide +kernel
theorem dX0_eventAt_10 : decode cX0_eventAt 10 = .ok (.iload_n 1, 1) := by decide +kernel
theorem dX0_eventAt_11 : decode cX0_eventAt 11 = .ok (.laload, 1) := by decide +kernel
theorem dX0_eventAt_12 : decode cX0_eventAt 12 = .ok (.iload_n 2, 1) := by decide +kernel
theorem dX0_eventAt_13 : decode cX0_eventAt 13 = .ok (.invokevirtual 94, 3) := by decide +kernel
theorem dX0_eventAt_16 : decode cX0_eventAt 16 = .ok (.ireturn, 1) := by decide +kernel
set_option maxRecDepth 20000 in
theorem ggX0_lengthOf_X0_checkEvent : GoodIn wsX0_lengthOf wsX0_checkEvent := goodIn_ca (goodIn_r _ [5, 6, 7, 8, 9, 10, 4, 11, 12, 52, 53, 54, 55, 56, 57, 58, 59, 60, 61, 62, 63, 64, 65] (by decide +kernel) (by decide +kernel)) (goodIn_sub (fun _ h => List.mem_cons_of_mem _ (List.mem_append_right _ h)) (by decide +kernel))
set_option maxRecDepth 20000 in
theorem gX0_lengthOf_X0_checkEvent : GoodIn wsX0_lengthOf (wsV RX0 87 RX0 yX0_checkEvent wsX0_checkEvent) := goodIn_app (goodIn_of _ (by decide +kernel)) ggX0_lengthOf_X0_checkEvent
set_option maxRecDepth 20000 in
theorem ggX0_lengthOf_X0_versionOfEvent : GoodIn wsX0_lengthOf wsX0_versionOfEvent := goodIn_r _ [16, 17, 18, 19, 4, 20, 52, 53, 54, 55, 56, 57, 58, 59, 60, 61, 62, 63, 64, 65] (by decide +kernel) (by decide +kernel)
set_option maxRecDepth 20000 in
theorem gX0_lengthOf_X0_versionOfEvent : GoodIn wsX0_lengthOf (wsV RX0 90 RX0 yX0_versionOfEvent wsX0_versionOfEvent) := goodIn_app (goodIn_of _ (by decide +kernel)) ggX0_lengthOf_X0_versionOfEvent
set_option maxRecDepth 20000 in
theorem ggX0_lengthOf_X0_findText : GoodIn wsX0_lengthOf wsX0_findText := goodIn_r _ [24, 25, 26, 27, 28, 29, 30, 31, 4, 32, 12, 33, 34, 35, 36, 37, 18, 19, 20, 38, 39, 40, 41, 42, 43, 44, 45, 46, 8, 9, 10, 11, 47, 48, 49, 50, 51, 52, 53, 54, 55, 56, 57, 58, 59, 60, 61, 62, 63, 64, 65] (by decide +kernel) (by decide +kernel)
set_option maxRecDepth 20000 in
theorem gX0_lengthOf_X0_findText : GoodIn wsX0_lengthOf (wsV RX0 58 RX0 yX0_findText wsX0_findText) := goodIn_app (goodIn_of _ (by decide +kernel)) ggX0_lengthOf_X0_findText
theorem dX0_lengthOf_0 : decode cX0_lengthOf 0 = .ok (.aload_n 0, 1) := by decide +kernel
theorem dX0_lengthOf_1 : decode cX0_lengthOf 1 = .ok (.iload_n 1, 1) := by decide +kernel
theorem dX0_lengthOf_2 : decode cX0_lengthOf 2 = .ok (.invokevirtual 87, 3) := by decide +kernel
theorem dX0_lengthOf_5 : decode cX0_lengthOf 5 = .ok (.aload_n 0, 1) := by decide +kernel
theorem dX0_lengthOf_6 : decode cX0_lengthOf 6 = .ok (.aload_n 0, 1) := by decide +kernel
theorem dX0_lengthOf_7 : decode cX0_lengthOf 7 = .ok (.iload_n 1, 1) := by decide +kernel
theorem dX0_lengthOf_8 : decode cX0_lengthOf 8 = .ok (.invokevirtual 90, 3) := by decide +kernel
theorem dX0_lengthOf_11 : decode cX0_lengthOf 11 = .ok (.invokevirtual 58, 3) := by decide +kernel
theorem dX0_lengthOf_14 : decode cX0_lengthOf 14 = .ok (.ireturn, 1) := by decide +kernel
set_option maxRecDepth 20000 in
theorem ggX0_letterOf_X0_checkEvent : GoodIn wsX0_letterOf wsX0_checkEvent := goodIn_ca (goodIn_r _ [6, 7, 8, 9, 10, 11, 5, 12, 13, 60, 61, 62, 63, 64, 65, 66, 67, 68, 69, 70, 71, 72, 73] (by decide +kernel) (by decide +kernel)) (goodIn_sub (fun _ h => List.mem_cons_of_mem _ (List.mem_append_right _ h)) (by decide +kernel))
set_option maxRecDepth 20000 in
theorem gX0_letterOf_X0_checkEvent : GoodIn wsX0_letterOf (wsV RX0 87 RX0 yX0_checkEvent wsX0_checkEvent) := goodIn_app (goodIn_of _ (by decide +kernel)) ggX0_letterOf_X0_checkEvent
set_option maxRecDepth 20000 in
theorem ggX0_letterOf_X0_versionOfEvent : GoodIn wsX0_letterOf wsX0_versionOfEvent := goodIn_r _ [17, 18, 19, 20, 5, 21, 60, 61, 62, 63, 64, 65, 66, 67, 68, 69, 70, 71, 72, 73] (by decide +kernel) (by decide +kernel)
set_option maxRecDepth 20000 in
theorem gX0_letterOf_X0_versionOfEvent : GoodIn wsX0_letterOf (wsV RX0 90 RX0 yX0_versionOfEvent wsX0_versionOfEvent) := goodIn_app (goodIn_of _ (by decide +kernel)) ggX0_letterOf_X0_versionOfEvent
set_option maxRecDepth 20000 in
theorem ggX0_letterOf_X0_eventInText : GoodIn wsX0_letterOf wsX0_eventInText := goodIn_ca (goodIn_r _ [25, 26, 27, 28, 29, 5, 30, 31, 32, 33, 34, 35, 36, 37, 38, 13, 39, 40, 41, 42, 43, 19, 20, 21, 44, 45, 46, 47, 1, 48, 49, 50, 51, 9, 10, 11, 12, 52, 53, 54, 55, 56, 57, 58, 59, 7, 8, 60, 61, 62, 63, 64, 65, 66, 67, 68, 69, 70, 71, 72, 73] (by decide +kernel) (by decide +kernel)) (goodIn_sub (fun _ h => List.mem_cons_of_mem _ (List.mem_append_right _ h)) (by decide +kernel))
set_option maxRecDepth 20000 in
theorem gX0_letterOf_X0_eventInText : GoodIn wsX0_letterOf (wsV RX0 94 RX0 yX0_eventInText wsX0_eventInText) := goodIn_app (goodIn_of _ (by decide +kernel)) ggX0_letterOf_X0_eventInText
theorem dX0_letterOf_0 : decode cX0_letterOf 0 = .ok (.aload_n 0, 1) := by decide +kernel
theorem dX0_letterOf_1 : decode cX0_letterOf 1 = .ok (.iload_n 1, 1) := by decide +kernel
theorem dX0_letterOf_2 : decode cX0_letterOf 2 = .ok (.invokevirtual 87, 3) := by decide +kernel
theorem dX0_letterOf_5 : decode cX0_letterOf 5 = .ok (.aload_n 0, 1) := by decide +kernel
theorem dX0_letterOf_6 : decode cX0_letterOf 6 = .ok (.getfield 17, 3) := by decide +kernel
theorem dX0_letterOf_9 : decode cX0_letterOf 9 = .ok (.aload_n 0, 1) := by decide +kernel
theorem dX0_letterOf_10 : decode cX0_letterOf 10 = .ok (.aload_n 0, 1) := by decide +kernel
theorem dX0_letterOf_11 : decode cX0_letterOf 11 = .ok (.iload_n 1, 1) := by decide +kernel
theorem dX0_letterOf_12 : decode cX0_letterOf 12 = .ok (.invokevirtual 90, 3) := by decide +kernel
theorem dX0_letterOf_15 : decode cX0_letterOf 15 = .ok (.iload_n 2, 1) := by decide +kernel
theorem dX0_letterOf_16 : decode cX0_letterOf 16 = .ok (.invokevirtual 94, 3) := by decide +kernel
theorem dX0_letterOf_19 : decode cX0_letterOf 19 = .ok (.iaload, 1) := by decide +kernel
theorem dX0_letterOf_20 : decode cX0_letterOf 20 = .ok (.ireturn, 1) := by decide +kernel
set_option maxRecDepth 20000 in
theorem ggX0_lettersBy_X0_checkAuthor : GoodIn wsX0_lettersBy wsX0_checkAuthor := goodIn_ca (goodIn_r _ [8, 9, 10] (by decide +kernel) (by decide +kernel)) (goodIn_sub (fun _ h => List.mem_cons_of_mem _ (List.mem_append_right _ h)) (by decide +kernel))
set_option maxRecDepth 20000 in
theorem gX0_lettersBy_X0_checkAuthor : GoodIn wsX0_lettersBy (wsV RX0 54 RX0 yX0_checkAuthor wsX0_checkAuthor) := goodIn_app (goodIn_of _ (by decide +kernel)) ggX0_lettersBy_X0_checkAuthor
set_option maxRecDepth 20000 in
theorem ggX0_lettersBy_X0_findText : GoodIn wsX0_lettersBy wsX0_findText := goodIn_r _ [14, 15, 16, 17, 18, 19, 20, 21, 7, 22, 23, 24, 25, 26, 27, 28, 29, 30, 31, 32, 33, 34, 35, 36, 37, 38, 39, 40, 41, 42, 43, 44, 45, 46, 47, 48, 3, 49, 50, 51, 52, 53, 54, 55, 56, 57, 58, 59, 60, 61, 62] (by decide +kernel) (by decide +kernel)
set_option maxRecDepth 20000 in
theorem gX0_lettersBy_X0_findText : GoodIn wsX0_lettersBy (wsV RX0 58 RX0 yX0_findText wsX0_findText) := goodIn_app (goodIn_of _ (by decide +kernel)) ggX0_lettersBy_X0_findText
theorem dX0_lettersBy_0 : decode cX0_lettersBy 0 = .ok (.aload_n 0, 1) := by decide +kernel
theorem dX0_lettersBy_1 : decode cX0_lettersBy 1 = .ok (.iload_n 1, 1) := by decide +kernel
theorem dX0_lettersBy_2 : decode cX0_lettersBy 2 = .ok (.invokevirtual 54, 3) := by decide +kernel
theorem dX0_lettersBy_5 : decode cX0_lettersBy 5 = .ok (.aload_n 0, 1) := by decide +kernel
theorem dX0_lettersBy_6 : decode cX0_lettersBy 6 = .ok (.iload_n 2, 1) := by decide +kernel
theorem dX0_lettersBy_7 : decode cX0_lettersBy 7 = .ok (.invokevirtual 54, 3) := by decide +kernel
theorem dX0_lettersBy_10 : decode cX0_lettersBy 10 = .ok (.aload_n 0, 1) := by decide +kernel
theorem dX0_lettersBy_11 : decode cX0_lettersBy 11 = .ok (.aload_n 0, 1) := by decide +kernel
theorem dX0_lettersBy_12 : decode cX0_lettersBy 12 = .ok (.getfield 33, 3) := by decide +kernel
theorem dX0_lettersBy_15 : decode cX0_lettersBy 15 = .ok (.iload_n 1, 1) := by decide +kernel
theorem dX0_lettersBy_16 : decode cX0_lettersBy 16 = .ok (.laload, 1) := by decide +kernel
theorem dX0_lettersBy_17 : decode cX0_lettersBy 17 = .ok (.invokevirtual 58, 3) := by decide +kernel
theorem dX0_lettersBy_20 : decode cX0_lettersBy 20 = .ok (.istore_n 3, 1) := by decide +kernel
theorem dX0_lettersBy_21 : decode cX0_lettersBy 21 = .ok (.iconst 0, 1) := by decide +kernel
theorem dX0_lettersBy_22 : decode cX0_lettersBy 22 = .ok (.istore 4, 2) := by decide +kernel
theorem dX0_lettersBy_24 : decode cX0_lettersBy 24 = .ok (.iconst 0, 1) := by decide +kernel
theorem dX0_lettersBy_25 : decode cX0_lettersBy 25 = .ok (.istore 5, 2) := by decide +kernel
theorem dX0_lettersBy_27 : decode cX0_lettersBy 27 = .ok (.iload 5, 2) := by decide +kernel
theorem dX0_lettersBy_29 : decode cX0_lettersBy 29 = .ok (.iload_n 3, 1) := by decide +kernel
theorem dX0_lettersBy_30 : decode cX0_lettersBy 30 = .ok (.if_icmp .ge 28, 3) := by decide +kernel
theorem dX0_lettersBy_33 : decode cX0_lettersBy 33 = .ok (.aload_n 0, 1) := by decide +kernel
theorem dX0_lettersBy_34 : decode cX0_lettersBy 34 = .ok (.getfield 13, 3) := by decide +kernel
theorem dX0_lettersBy_37 : decode cX0_lettersBy 37 = .ok (.aload_n 0, 1) := by decide +kernel
theorem dX0_lettersBy_38 : decode cX0_lettersBy 38 = .ok (.getfield 45, 3) := by decide +kernel
theorem dX0_lettersBy_41 : decode cX0_lettersBy 41 = .ok (.iload 5, 2) := by decide +kernel
theorem dX0_lettersBy_43 : decode cX0_lettersBy 43 = .ok (.iaload, 1) := by decide +kernel
theorem dX0_lettersBy_44 : decode cX0_lettersBy 44 = .ok (.iaload, 1) := by decide +kernel
theorem dX0_lettersBy_45 : decode cX0_lettersBy 45 = .ok (.iload_n 2, 1) := by decide +kernel
theorem dX0_lettersBy_46 : decode cX0_lettersBy 46 = .ok (.if_icmp .ne 6, 3) := by decide +kernel
theorem dX0_lettersBy_49 : decode cX0_lettersBy 49 = .ok (.iinc 4 1, 3) := by decide +kernel
theorem dX0_lettersBy_52 : decode cX0_lettersBy 52 = .ok (.iinc 5 1, 3) := by decide +kernel
theorem dX0_lettersBy_55 : decode cX0_lettersBy 55 = .ok (.goto (-28), 3) := by decide +kernel
theorem dX0_lettersBy_58 : decode cX0_lettersBy 58 = .ok (.iload 4, 2) := by decide +kernel
theorem dX0_lettersBy_60 : decode cX0_lettersBy 60 = .ok (.ireturn, 1) := by decide +kernel
set_option maxRecDepth 20000 in
theorem ggX0_authorOf_X0_checkEvent : GoodIn wsX0_authorOf wsX0_checkEvent := goodIn_ca (goodIn_r _ [6, 7, 8, 9, 10, 11, 5, 12, 13, 14, 15, 16, 17, 18, 19, 20, 21, 22, 23, 24, 25, 26, 27] (by decide +kernel) (by decide +kernel)) (goodIn_sub (fun _ h => List.mem_cons_of_mem _ (List.mem_append_right _ h)) (by decide +kernel))
set_option maxRecDepth 20000 in
theorem gX0_authorOf_X0_checkEvent : GoodIn wsX0_authorOf (wsV RX0 87 RX0 yX0_checkEvent wsX0_checkEvent) := goodIn_app (goodIn_of _ (by decide +kernel)) ggX0_authorOf_X0_checkEvent
theorem dX0_authorOf_0 : decode cX0_authorOf 0 = .ok (.aload_n 0, 1) := by decide +kernel
theorem dX0_authorOf_1 : decode cX0_authorOf 1 = .ok (.iload_n 1, 1) := by decide +kernel
theorem dX0_authorOf_2 : decode cX0_authorOf 2 = .ok (.invokevirtual 87, 3) := by decide +kernel
theorem dX0_authorOf_5 : decode cX0_authorOf 5 = .ok (.aload_n 0, 1) := by decide +kernel
theorem dX0_authorOf_6 : decode cX0_authorOf 6 = .ok (.getfield 13, 3) := by decide +kernel
theorem dX0_authorOf_9 : decode cX0_authorOf 9 = .ok (.iload_n 1, 1) := by decide +kernel
theorem dX0_authorOf_10 : decode cX0_authorOf 10 = .ok (.iaload, 1) := by decide +kernel
theorem dX0_authorOf_11 : decode cX0_authorOf 11 = .ok (.ireturn, 1) := by decide +kernel
set_option maxRecDepth 20000 in
theorem ggX0_parents_X0_checkEvent : GoodIn wsX0_parents wsX0_checkEvent := goodIn_ca (goodIn_r _ [6, 7, 8, 9, 10, 11, 5, 12, 13, 14, 15, 16, 17, 18, 19, 20, 21, 22, 23, 24, 25, 26, 27] (by decide +kernel) (by decide +kernel)) (goodIn_sub (fun _ h => List.mem_cons_of_mem _ (List.mem_append_right _ h)) (by decide +kernel))
set_option maxRecDepth 20000 in
theorem gX0_parents_X0_checkEvent : GoodIn wsX0_parents (wsV RX0 87 RX0 yX0_checkEvent wsX0_checkEvent) := goodIn_app (goodIn_of _ (by decide +kernel)) ggX0_parents_X0_checkEvent
theorem dX0_parents_0 : decode cX0_parents 0 = .ok (.aload_n 0, 1) := by decide +kernel
theorem dX0_parents_1 : decode cX0_parents 1 = .ok (.iload_n 1, 1) := by decide +kernel
theorem dX0_parents_2 : decode cX0_parents 2 = .ok (.invokevirtual 87, 3) := by decide +kernel
theorem dX0_parents_5 : decode cX0_parents 5 = .ok (.aload_n 0, 1) := by decide +kernel
theorem dX0_parents_6 : decode cX0_parents 6 = .ok (.getfield 23, 3) := by decide +kernel
theorem dX0_parents_9 : decode cX0_parents 9 = .ok (.iload_n 1, 1) := by decide +kernel
theorem dX0_parents_10 : decode cX0_parents 10 = .ok (.laload, 1) := by decide +kernel
theorem dX0_parents_11 : decode cX0_parents 11 = .ok (.lreturn, 1) := by decide +kernel
set_option maxRecDepth 20000 in
theorem ggX0_isLater_X0_checkEvent : GoodIn wsX0_isLater wsX0_checkEvent := goodIn_ca (goodIn_r _ [6, 7, 8, 9, 10, 11, 5, 12, 13, 20, 21, 22, 23, 24, 25, 26, 27, 28, 29, 30, 31, 32, 33] (by decide +kernel) (by decide +kernel)) (goodIn_sub (fun _ h => List.mem_cons_of_mem _ (List.mem_append_right _ h)) (by decide +kernel))
set_option maxRecDepth 20000 in
theorem gX0_isLater_X0_checkEvent : GoodIn wsX0_isLater (wsV RX0 87 RX0 yX0_checkEvent wsX0_checkEvent) := goodIn_app (goodIn_of _ (by decide +kernel)) ggX0_isLater_X0_checkEvent
set_option maxRecDepth 20000 in
theorem ggX0_isLater_X0_has : GoodIn wsX0_isLater wsX0_has := goodIn_r _ [16, 17, 18, 5, 19] (by decide +kernel) (by decide +kernel)
set_option maxRecDepth 20000 in
theorem gX0_isLater_X0_has : GoodIn wsX0_isLater (va_wsS RX0 101 yX0_has wsX0_has) := goodIn_app (goodIn_of _ (by decide +kernel)) ggX0_isLater_X0_has
theorem dX0_isLater_0 : decode cX0_isLater 0 = .ok (.aload_n 0, 1) := by decide +kernel
theorem dX0_isLater_1 : decode cX0_isLater 1 = .ok (.iload_n 1, 1) := by decide +kernel
theorem dX0_isLater_2 : decode cX0_isLater 2 = .ok (.invokevirtual 87, 3) := by decide +kernel
theorem dX0_isLater_5 : decode cX0_isLater 5 = .ok (.aload_n 0, 1) := by decide +kernel
theorem dX0_isLater_6 : decode cX0_isLater 6 = .ok (.iload_n 2, 1) := by decide +kernel
theorem dX0_isLater_7 : decode cX0_isLater 7 = .ok (.invokevirtual 87, 3) := by decide +kernel
theorem dX0_isLater_10 : decode cX0_isLater 10 = .ok (.aload_n 0, 1) := by decide +kernel
theorem dX0_isLater_11 : decode cX0_isLater 11 = .ok (.getfield 27, 3) := by decide +kernel
theorem dX0_isLater_14 : decode cX0_isLater 14 = .ok (.iload_n 1, 1) := by decide +kernel
theorem dX0_isLater_15 : decode cX0_isLater 15 = .ok (.laload, 1) := by decide +kernel
theorem dX0_isLater_16 : decode cX0_isLater 16 = .ok (.iload_n 2, 1) := by decide +kernel
theorem dX0_isLater_17 : decode cX0_isLater 17 = .ok (.invokestatic 101, 3) := by decide +kernel
theorem dX0_isLater_20 : decode cX0_isLater 20 = .ok (.ireturn, 1) := by decide +kernel
set_option maxRecDepth 20000 in
theorem ggX0_version_X0_checkAuthor : GoodIn wsX0_version wsX0_checkAuthor := goodIn_ca (goodIn_r _ [6, 7, 8] (by decide +kernel) (by decide +kernel)) (goodIn_sub (fun _ h => List.mem_cons_of_mem _ (List.mem_append_right _ h)) (by decide +kernel))
set_option maxRecDepth 20000 in
theorem gX0_version_X0_checkAuthor : GoodIn wsX0_version (wsV RX0 54 RX0 yX0_checkAuthor wsX0_checkAuthor) := goodIn_app (goodIn_of _ (by decide +kernel)) ggX0_version_X0_checkAuthor
theorem dX0_version_0 : decode cX0_version 0 = .ok (.aload_n 0, 1) := by decide +kernel
theorem dX0_version_1 : decode cX0_version 1 = .ok (.iload_n 1, 1) := by decide +kernel
theorem dX0_version_2 : decode cX0_version 2 = .ok (.invokevirtual 54, 3) := by decide +kernel
theorem dX0_version_5 : decode cX0_version 5 = .ok (.aload_n 0, 1) := by decide +kernel
theorem dX0_version_6 : decode cX0_version 6 = .ok (.getfield 33, 3) := by decide +kernel
theorem dX0_version_9 : decode cX0_version 9 = .ok (.iload_n 1, 1) := by decide +kernel
theorem dX0_version_10 : decode cX0_version 10 = .ok (.laload, 1) := by decide +kernel
theorem dX0_version_11 : decode cX0_version 11 = .ok (.lreturn, 1) := by decide +kernel
set_option maxRecDepth 20000 in
theorem ggX0_heads_X0_checkAuthor : GoodIn wsX0_heads wsX0_checkAuthor := goodIn_ca (goodIn_r _ [6, 7, 8] (by decide +kernel) (by decide +kernel)) (goodIn_sub (fun _ h => List.mem_cons_of_mem _ (List.mem_append_right _ h)) (by decide +kernel))
set_option maxRecDepth 20000 in
theorem gX0_heads_X0_checkAuthor : GoodIn wsX0_heads (wsV RX0 54 RX0 yX0_checkAuthor wsX0_checkAuthor) := goodIn_app (goodIn_of _ (by decide +kernel)) ggX0_heads_X0_checkAuthor
set_option maxRecDepth 20000 in
theorem ggX0_heads_X0_headsOf : GoodIn wsX0_heads wsX0_headsOf := goodIn_r _ [12, 13, 14, 15, 16, 17, 5, 18, 19, 20, 21, 22, 23, 24, 25, 26, 27, 28, 29, 30, 31, 32, 33, 34, 35] (by decide +kernel) (by decide +kernel)
set_option maxRecDepth 20000 in
theorem gX0_heads_X0_headsOf : GoodIn wsX0_heads (wsV RX0 105 RX0 yX0_headsOf wsX0_headsOf) := goodIn_app (goodIn_of _ (by decide +kernel)) ggX0_heads_X0_headsOf
theorem dX0_heads_0 : decode cX0_heads 0 = .ok (.aload_n 0, 1) := by decide +kernel
theorem dX0_heads_1 : decode cX0_heads 1 = .ok (.iload_n 1, 1) := by decide +kernel
theorem dX0_heads_2 : decode cX0_heads 2 = .ok (.invokevirtual 54, 3) := by decide +kernel
theorem dX0_heads_5 : decode cX0_heads 5 = .ok (.aload_n 0, 1) := by decide +kernel
theorem dX0_heads_6 : decode cX0_heads 6 = .ok (.aload_n 0, 1) := by decide +kernel
theorem dX0_heads_7 : decode cX0_heads 7 = .ok (.getfield 33, 3) := by decide +kernel
theorem dX0_heads_10 : decode cX0_heads 10 = .ok (.iload_n 1, 1) := by decide +kernel
theorem dX0_heads_11 : decode cX0_heads 11 = .ok (.laload, 1) := by decide +kernel
theorem dX0_heads_12 : decode cX0_heads 12 = .ok (.invokevirtual 105, 3) := by decide +kernel
theorem dX0_heads_15 : decode cX0_heads 15 = .ok (.lreturn, 1) := by decide +kernel
set_option maxRecDepth 20000 in
theorem ggX0_commonHeads_X0_checkAuthor : GoodIn wsX0_commonHeads wsX0_checkAuthor := goodIn_ca (goodIn_r _ [6, 7, 8] (by decide +kernel) (by decide +kernel)) (goodIn_sub (fun _ h => List.mem_cons_of_mem _ (List.mem_append_right _ h)) (by decide +kernel))
set_option maxRecDepth 20000 in
theorem gX0_commonHeads_X0_checkAuthor : GoodIn wsX0_commonHeads (wsV RX0 54 RX0 yX0_checkAuthor wsX0_checkAuthor) := goodIn_app (goodIn_of _ (by decide +kernel)) ggX0_commonHeads_X0_checkAuthor
set_option maxRecDepth 20000 in
theorem ggX0_commonHeads_X0_headsOf : GoodIn wsX0_commonHeads wsX0_headsOf := goodIn_r _ [12, 13, 14, 15, 16, 17, 5, 18, 19, 20, 21, 22, 23, 24, 25, 26, 27, 28, 29, 30, 31, 32, 33, 34, 35] (by decide +kernel) (by decide +kernel)
set_option maxRecDepth 20000 in
theorem gX0_commonHeads_X0_headsOf : GoodIn wsX0_commonHeads (wsV RX0 105 RX0 yX0_headsOf wsX0_headsOf) := goodIn_app (goodIn_of _ (by decide +kernel)) ggX0_commonHeads_X0_headsOf
theorem dX0_commonHeads_0 : decode cX0_commonHeads 0 = .ok (.aload_n 0, 1) := by decide +kernel
theorem dX0_commonHeads_1 : decode cX0_commonHeads 1 = .ok (.iload_n 1, 1) := by decide +kernel
theorem dX0_commonHeads_2 : decode cX0_commonHeads 2 = .ok (.invokevirtual 54, 3) := by decide +kernel
theorem dX0_commonHeads_5 : decode cX0_commonHeads 5 = .ok (.aload_n 0, 1) := by decide +kernel
theorem dX0_commonHeads_6 : decode cX0_commonHeads 6 = .ok (.iload_n 2, 1) := by decide +kernel
theorem dX0_commonHeads_7 : decode cX0_commonHeads 7 = .ok (.invokevirtual 54, 3) := by decide +kernel
theorem dX0_commonHeads_10 : decode cX0_commonHeads 10 = .ok (.aload_n 0, 1) := by decide +kernel
theorem dX0_commonHeads_11 : decode cX0_commonHeads 11 = .ok (.aload_n 0, 1) := by decide +kernel
theorem dX0_commonHeads_12 : decode cX0_commonHeads 12 = .ok (.getfield 33, 3) := by decide +kernel
theorem dX0_commonHeads_15 : decode cX0_commonHeads 15 = .ok (.iload_n 1, 1) := by decide +kernel
theorem dX0_commonHeads_16 : decode cX0_commonHeads 16 = .ok (.laload, 1) := by decide +kernel
theorem dX0_commonHeads_17 : decode cX0_commonHeads 17 = .ok (.aload_n 0, 1) := by decide +kernel
theorem dX0_commonHeads_18 : decode cX0_commonHeads 18 = .ok (.getfield 33, 3) := by decide +kernel
theorem dX0_commonHeads_21 : decode cX0_commonHeads 21 = .ok (.iload_n 2, 1) := by decide +kernel
theorem dX0_commonHeads_22 : decode cX0_commonHeads 22 = .ok (.laload, 1) := by decide +kernel
theorem dX0_commonHeads_23 : decode cX0_commonHeads 23 = .ok (.land, 1) := by decide +kernel
theorem dX0_commonHeads_24 : decode cX0_commonHeads 24 = .ok (.invokevirtual 105, 3) := by decide +kernel
theorem dX0_commonHeads_27 : decode cX0_commonHeads 27 = .ok (.lreturn, 1) := by decide +kernel
set_option maxRecDepth 20000 in
theorem ggX0_concurrent_X0_checkAuthor : GoodIn wsX0_concurrent wsX0_checkAuthor := goodIn_ca (goodIn_r _ [8, 9, 10] (by decide +kernel) (by decide +kernel)) (goodIn_sub (fun _ h => List.mem_cons_of_mem _ (List.mem_append_right _ h)) (by decide +kernel))
set_option maxRecDepth 20000 in
theorem gX0_concurrent_X0_checkAuthor : GoodIn wsX0_concurrent (wsV RX0 54 RX0 yX0_checkAuthor wsX0_checkAuthor) := goodIn_app (goodIn_of _ (by decide +kernel)) ggX0_concurrent_X0_checkAuthor
set_option maxRecDepth 20000 in
theorem ggX0_concurrent_X0_has : GoodIn wsX0_concurrent wsX0_has := goodIn_r _ [13, 14, 15, 7, 16] (by decide +kernel) (by decide +kernel)
set_option maxRecDepth 20000 in
theorem gX0_concurrent_X0_has : GoodIn wsX0_concurrent (va_wsS RX0 101 yX0_has wsX0_has) := goodIn_app (goodIn_of _ (by decide +kernel)) ggX0_concurrent_X0_has
set_option maxRecDepth 20000 in
theorem ggX0_concurrent_X0_relatedTo : GoodIn wsX0_concurrent wsX0_relatedTo := goodIn_r _ [20, 21, 22, 23, 24, 7, 25, 26, 14, 15, 16, 34, 35, 36, 37, 38, 39, 40, 41, 42, 43, 44, 45, 46, 47] (by decide +kernel) (by decide +kernel)
set_option maxRecDepth 20000 in
theorem gX0_concurrent_X0_relatedTo : GoodIn wsX0_concurrent (wsV RX0 109 RX0 yX0_relatedTo wsX0_relatedTo) := goodIn_app (goodIn_of _ (by decide +kernel)) ggX0_concurrent_X0_relatedTo
set_option maxRecDepth 20000 in
theorem ggX0_concurrent_J13_bitCount_95d88 : GoodIn wsX0_concurrent wsJ13_bitCount_95d88 := goodIn_r _ [30, 31, 32, 33] (by decide +kernel) (by decide +kernel)
set_option maxRecDepth 20000 in
theorem gX0_concurrent_J13_bitCount_95d88 : GoodIn wsX0_concurrent (va_wsS RX0 114 yJ13_bitCount_95d88 wsJ13_bitCount_95d88) := goodIn_app (goodIn_of _ (by decide +kernel)) ggX0_concurrent_J13_bitCount_95d88
theorem dX0_concurrent_0 : decode cX0_concurrent 0 = .ok (.aload_n 0, 1) := by decide +kernel
theorem dX0_concurrent_1 : decode cX0_concurrent 1 = .ok (.iload_n 1, 1) := by decide +kernel
theorem dX0_concurrent_2 : decode cX0_concurrent 2 = .ok (.invokevirtual 54, 3) := by decide +kernel
theorem dX0_concurrent_5 : decode cX0_concurrent 5 = .ok (.aload_n 0, 1) := by decide +kernel
theorem dX0_concurrent_6 : decode cX0_concurrent 6 = .ok (.getfield 33, 3) := by decide +kernel
theorem dX0_concurrent_9 : decode cX0_concurrent 9 = .ok (.iload_n 1, 1) := by decide +kernel
theorem dX0_concurrent_10 : decode cX0_concurrent 10 = .ok (.laload, 1) := by decide +kernel
theorem dX0_concurrent_11 : decode cX0_concurrent 11 = .ok (.lstore_n 2, 1) := by decide +kernel
theorem dX0_concurrent_12 : decode cX0_concurrent 12 = .ok (.iconst 0, 1) := by decide +kernel
theorem dX0_concurrent_13 : decode cX0_concurrent 13 = .ok (.istore 4, 2) := by decide +kernel
theorem dX0_concurrent_15 : decode cX0_concurrent 15 = .ok (.iconst 0, 1) := by decide +kernel
theorem dX0_concurrent_16 : decode cX0_concurrent 16 = .ok (.istore 5, 2) := by decide +kernel
theorem dX0_concurrent_18 : decode cX0_concurrent 18 = .ok (.iload 5, 2) := by decide +kernel
theorem dX0_concurrent_20 : decode cX0_concurrent 20 = .ok (.aload_n 0, 1) := by decide +kernel
theorem dX0_concurrent_21 : decode cX0_concurrent 21 = .ok (.getfield 7, 3) := by decide +kernel
theorem dX0_concurrent_24 : decode cX0_concurrent 24 = .ok (.if_icmp .ge 38, 3) := by decide +kernel
theorem dX0_concurrent_27 : decode cX0_concurrent 27 = .ok (.lload_n 2, 1) := by decide +kernel
theorem dX0_concurrent_28 : decode cX0_concurrent 28 = .ok (.iload 5, 2) := by decide +kernel
theorem dX0_concurrent_30 : decode cX0_concurrent 30 = .ok (.invokestatic 101, 3) := by decide +kernel
theorem dX0_concurrent_33 : decode cX0_concurrent 33 = .ok (.ifCond .eq 23, 3) := by decide +kernel
theorem dX0_concurrent_36 : decode cX0_concurrent 36 = .ok (.iload 4, 2) := by decide +kernel
theorem dX0_concurrent_38 : decode cX0_concurrent 38 = .ok (.lload_n 2, 1) := by decide +kernel
theorem dX0_concurrent_39 : decode cX0_concurrent 39 = .ok (.aload_n 0, 1) := by decide +kernel
theorem dX0_concurrent_40 : decode cX0_concurrent 40 = .ok (.iload 5, 2) := by decide +kernel
theorem dX0_concurrent_42 : decode cX0_concurrent 42 = .ok (.invokevirtual 109, 3) := by decide +kernel
theorem dX0_concurrent_45 : decode cX0_concurrent 45 = .ok (.ldc2_w 112, 3) := by decide +kernel
theorem dX0_concurrent_48 : decode cX0_concurrent 48 = .ok (.lxor, 1) := by decide +kernel
theorem dX0_concurrent_49 : decode cX0_concurrent 49 = .ok (.land, 1) := by decide +kernel
theorem dX0_concurrent_50 : decode cX0_concurrent 50 = .ok (.invokestatic 114, 3) := by decide +kernel
theorem dX0_concurrent_53 : decode cX0_concurrent 53 = .ok (.iadd, 1) := by decide +kernel
theorem dX0_concurrent_54 : decode cX0_concurrent 54 = .ok (.istore 4, 2) := by decide +kernel
theorem dX0_concurrent_56 : decode cX0_concurrent 56 = .ok (.iinc 5 1, 3) := by decide +kernel
theorem dX0_concurrent_59 : decode cX0_concurrent 59 = .ok (.goto (-41), 3) := by decide +kernel
theorem dX0_concurrent_62 : decode cX0_concurrent 62 = .ok (.iload 4, 2) := by decide +kernel
theorem dX0_concurrent_64 : decode cX0_concurrent 64 = .ok (.iconst 1, 1) := by decide +kernel
theorem dX0_concurrent_65 : decode cX0_concurrent 65 = .ok (.ishr, 1) := by decide +kernel
theorem dX0_concurrent_66 : decode cX0_concurrent 66 = .ok (.ireturn, 1) := by decide +kernel
set_option maxRecDepth 20000 in
theorem ggX0_critical_X0_checkAuthor : GoodIn wsX0_critical wsX0_checkAuthor := goodIn_ca (goodIn_r _ [6, 7, 8] (by decide +kernel) (by decide +kernel)) (goodIn_sub (fun _ h => List.mem_cons_of_mem _ (List.mem_append_right _ h)) (by decide +kernel))
set_option maxRecDepth 20000 in
theorem gX0_critical_X0_checkAuthor : GoodIn wsX0_critical (wsV RX0 54 RX0 yX0_checkAuthor wsX0_checkAuthor) := goodIn_app (goodIn_of _ (by decide +kernel)) ggX0_critical_X0_checkAuthor
set_option maxRecDepth 20000 in
theorem ggX0_critical_X0_criticalOf : GoodIn wsX0_critical wsX0_criticalOf := goodIn_r _ [12, 13, 14, 15, 16, 5, 17, 18, 19, 20, 21, 22, 23, 24, 25, 26, 27, 28, 29, 30, 31, 32, 33, 34, 35, 36, 37, 38, 39, 40, 41, 42, 43, 44] (by decide +kernel) (by decide +kernel)
set_option maxRecDepth 20000 in
theorem gX0_critical_X0_criticalOf : GoodIn wsX0_critical (wsV RX0 119 RX0 yX0_criticalOf wsX0_criticalOf) := goodIn_app (goodIn_of _ (by decide +kernel)) ggX0_critical_X0_criticalOf
theorem dX0_critical_0 : decode cX0_critical 0 = .ok (.aload_n 0, 1) := by decide +kernel
theorem dX0_critical_1 : decode cX0_critical 1 = .ok (.iload_n 1, 1) := by decide +kernel
theorem dX0_critical_2 : decode cX0_critical 2 = .ok (.invokevirtual 54, 3) := by decide +kernel
theorem dX0_critical_5 : decode cX0_critical 5 = .ok (.aload_n 0, 1) := by decide +kernel
theorem dX0_critical_6 : decode cX0_critical 6 = .ok (.aload_n 0, 1) := by decide +kernel
theorem dX0_critical_7 : decode cX0_critical 7 = .ok (.getfield 33, 3) := by decide +kernel
theorem dX0_critical_10 : decode cX0_critical 10 = .ok (.iload_n 1, 1) := by decide +kernel
theorem dX0_critical_11 : decode cX0_critical 11 = .ok (.laload, 1) := by decide +kernel
theorem dX0_critical_12 : decode cX0_critical 12 = .ok (.invokevirtual 119, 3) := by decide +kernel
theorem dX0_critical_15 : decode cX0_critical 15 = .ok (.lreturn, 1) := by decide +kernel
set_option maxRecDepth 20000 in
theorem ggX0_toReplay_X0_checkAuthor : GoodIn wsX0_toReplay wsX0_checkAuthor := goodIn_ca (goodIn_r _ [8, 9, 10] (by decide +kernel) (by decide +kernel)) (goodIn_sub (fun _ h => List.mem_cons_of_mem _ (List.mem_append_right _ h)) (by decide +kernel))
set_option maxRecDepth 20000 in
theorem gX0_toReplay_X0_checkAuthor : GoodIn wsX0_toReplay (wsV RX0 54 RX0 yX0_checkAuthor wsX0_checkAuthor) := goodIn_app (goodIn_of _ (by decide +kernel)) ggX0_toReplay_X0_checkAuthor
set_option maxRecDepth 20000 in
theorem ggX0_toReplay_X0_criticalOf : GoodIn wsX0_toReplay wsX0_criticalOf := goodIn_r _ [14, 2, 3, 15, 16, 7, 17, 18, 19, 20, 21, 22, 23, 24, 25, 26, 27, 28, 29, 30, 38, 39, 40, 41, 42, 43, 44, 45, 46, 47, 48, 49, 50, 51] (by decide +kernel) (by decide +kernel)
set_option maxRecDepth 20000 in
theorem gX0_toReplay_X0_criticalOf : GoodIn wsX0_toReplay (wsV RX0 119 RX0 yX0_criticalOf wsX0_criticalOf) := goodIn_app (goodIn_of _ (by decide +kernel)) ggX0_toReplay_X0_criticalOf
set_option maxRecDepth 20000 in
theorem ggX0_toReplay_X0_has : GoodIn wsX0_toReplay wsX0_has := goodIn_r _ [17, 18, 19, 7, 20] (by decide +kernel) (by decide +kernel)
set_option maxRecDepth 20000 in
theorem gX0_toReplay_X0_has : GoodIn wsX0_toReplay (va_wsS RX0 101 yX0_has wsX0_has) := goodIn_app (goodIn_of _ (by decide +kernel)) ggX0_toReplay_X0_has
set_option maxRecDepth 20000 in
theorem ggX0_toReplay_X0_versionOfEvent : GoodIn wsX0_toReplay wsX0_versionOfEvent := goodIn_r _ [29, 30, 18, 19, 7, 20, 38, 39, 40, 41, 42, 43, 44, 45, 46, 47, 48, 49, 50, 51] (by decide +kernel) (by decide +kernel)
set_option maxRecDepth 20000 in
theorem gX0_toReplay_X0_versionOfEvent : GoodIn wsX0_toReplay (wsV RX0 90 RX0 yX0_versionOfEvent wsX0_versionOfEvent) := goodIn_app (goodIn_of _ (by decide +kernel)) ggX0_toReplay_X0_versionOfEvent
set_option maxRecDepth 20000 in
theorem ggX0_toReplay_J13_bitCount_95d88 : GoodIn wsX0_toReplay wsJ13_bitCount_95d88 := goodIn_r _ [34, 35, 36, 37] (by decide +kernel) (by decide +kernel)
set_option maxRecDepth 20000 in
theorem gX0_toReplay_J13_bitCount_95d88 : GoodIn wsX0_toReplay (va_wsS RX0 114 yJ13_bitCount_95d88 wsJ13_bitCount_95d88) := goodIn_app (goodIn_of _ (by decide +kernel)) ggX0_toReplay_J13_bitCount_95d88
theorem dX0_toReplay_0 : decode cX0_toReplay 0 = .ok (.aload_n 0, 1) := by decide +kernel
theorem dX0_toReplay_1 : decode cX0_toReplay 1 = .ok (.iload_n 1, 1) := by decide +kernel
theorem dX0_toReplay_2 : decode cX0_toReplay 2 = .ok (.invokevirtual 54, 3) := by decide +kernel
theorem dX0_toReplay_5 : decode cX0_toReplay 5 = .ok (.aload_n 0, 1) := by decide +kernel
theorem dX0_toReplay_6 : decode cX0_toReplay 6 = .ok (.getfield 33, 3) := by decide +kernel
theorem dX0_toReplay_9 : decode cX0_toReplay 9 = .ok (.iload_n 1, 1) := by decide +kernel
theorem dX0_toReplay_10 : decode cX0_toReplay 10 = .ok (.laload, 1) := by decide +kernel
theorem dX0_toReplay_11 : decode cX0_toReplay 11 = .ok (.lstore_n 2, 1) := by decide +kernel
theorem dX0_toReplay_12 : decode cX0_toReplay 12 = .ok (.aload_n 0, 1) := by decide +kernel
theorem dX0_toReplay_13 : decode cX0_toReplay 13 = .ok (.lload_n 2, 1) := by decide +kernel
theorem dX0_toReplay_14 : decode cX0_toReplay 14 = .ok (.invokevirtual 119, 3) := by decide +kernel
theorem dX0_toReplay_17 : decode cX0_toReplay 17 = .ok (.lstore 4, 2) := by decide +kernel
theorem dX0_toReplay_19 : decode cX0_toReplay 19 = .ok (.lconst 0, 1) := by decide +kernel
theorem dX0_toReplay_20 : decode cX0_toReplay 20 = .ok (.lstore 6, 2) := by decide +kernel
theorem dX0_toReplay_22 : decode cX0_toReplay 22 = .ok (.iconst 0, 1) := by decide +kernel
theorem dX0_toReplay_23 : decode cX0_toReplay 23 = .ok (.istore 8, 2) := by decide +kernel
theorem dX0_toReplay_25 : decode cX0_toReplay 25 = .ok (.iload 8, 2) := by decide +kernel
theorem dX0_toReplay_27 : decode cX0_toReplay 27 = .ok (.aload_n 0, 1) := by decide +kernel
theorem dX0_toReplay_28 : decode cX0_toReplay 28 = .ok (.getfield 7, 3) := by decide +kernel
theorem dX0_toReplay_31 : decode cX0_toReplay 31 = .ok (.if_icmp .ge 27, 3) := by decide +kernel
theorem dX0_toReplay_34 : decode cX0_toReplay 34 = .ok (.lload 4, 2) := by decide +kernel
theorem dX0_toReplay_36 : decode cX0_toReplay 36 = .ok (.iload 8, 2) := by decide +kernel
theorem dX0_toReplay_38 : decode cX0_toReplay 38 = .ok (.invokestatic 101, 3) := by decide +kernel
theorem dX0_toReplay_41 : decode cX0_toReplay 41 = .ok (.ifCond .eq 11, 3) := by decide +kernel
theorem dX0_toReplay_44 : decode cX0_toReplay 44 = .ok (.aload_n 0, 1) := by decide +kernel
theorem dX0_toReplay_45 : decode cX0_toReplay 45 = .ok (.iload 8, 2) := by decide +kernel
theorem dX0_toReplay_47 : decode cX0_toReplay 47 = .ok (.invokevirtual 90, 3) := by decide +kernel
theorem dX0_toReplay_50 : decode cX0_toReplay 50 = .ok (.lstore 6, 2) := by decide +kernel
theorem dX0_toReplay_52 : decode cX0_toReplay 52 = .ok (.iinc 8 1, 3) := by decide +kernel
theorem dX0_toReplay_55 : decode cX0_toReplay 55 = .ok (.goto (-30), 3) := by decide +kernel
theorem dX0_toReplay_58 : decode cX0_toReplay 58 = .ok (.lload_n 2, 1) := by decide +kernel
theorem dX0_toReplay_59 : decode cX0_toReplay 59 = .ok (.lload 6, 2) := by decide +kernel
theorem dX0_toReplay_61 : decode cX0_toReplay 61 = .ok (.ldc2_w 112, 3) := by decide +kernel
theorem dX0_toReplay_64 : decode cX0_toReplay 64 = .ok (.lxor, 1) := by decide +kernel
theorem dX0_toReplay_65 : decode cX0_toReplay 65 = .ok (.land, 1) := by decide +kernel
theorem dX0_toReplay_66 : decode cX0_toReplay 66 = .ok (.invokestatic 114, 3) := by decide +kernel
theorem dX0_toReplay_69 : decode cX0_toReplay 69 = .ok (.ireturn, 1) := by decide +kernel
set_option maxRecDepth 20000 in
theorem ggX0_runs_X0_checkAuthor : GoodIn wsX0_runs wsX0_checkAuthor := goodIn_ca (goodIn_r _ [7, 8, 9] (by decide +kernel) (by decide +kernel)) (goodIn_sub (fun _ h => List.mem_cons_of_mem _ (List.mem_append_right _ h)) (by decide +kernel))
set_option maxRecDepth 20000 in
theorem gX0_runs_X0_checkAuthor : GoodIn wsX0_runs (wsV RX0 54 RX0 yX0_checkAuthor wsX0_checkAuthor) := goodIn_app (goodIn_of _ (by decide +kernel)) ggX0_runs_X0_checkAuthor
set_option maxRecDepth 20000 in
theorem ggX0_runs_X0_has : GoodIn wsX0_runs wsX0_has := goodIn_r _ [12, 13, 14, 6, 15] (by decide +kernel) (by decide +kernel)
set_option maxRecDepth 20000 in
theorem gX0_runs_X0_has : GoodIn wsX0_runs (va_wsS RX0 101 yX0_has wsX0_has) := goodIn_app (goodIn_of _ (by decide +kernel)) ggX0_runs_X0_has
set_option maxRecDepth 20000 in
theorem ggX0_runs_X0_continuesRun : GoodIn wsX0_runs wsX0_continuesRun := goodIn_r _ [19, 20, 21, 22, 23, 24, 25, 6, 26, 27, 28, 29, 30, 31, 2, 13, 14, 15, 32, 33, 34, 35, 36, 37, 38, 39, 40, 41, 42, 43, 44, 45] (by decide +kernel) (by decide +kernel)
set_option maxRecDepth 20000 in
theorem gX0_runs_X0_continuesRun : GoodIn wsX0_runs (wsV RX0 122 RX0 yX0_continuesRun wsX0_continuesRun) := goodIn_app (goodIn_of _ (by decide +kernel)) ggX0_runs_X0_continuesRun
theorem dX0_runs_0 : decode cX0_runs 0 = .ok (.aload_n 0, 1) := by decide +kernel
theorem dX0_runs_1 : decode cX0_runs 1 = .ok (.iload_n 1, 1) := by decide +kernel
theorem dX0_runs_2 : decode cX0_runs 2 = .ok (.invokevirtual 54, 3) := by decide +kernel
theorem dX0_runs_5 : decode cX0_runs 5 = .ok (.aload_n 0, 1) := by decide +kernel
theorem dX0_runs_6 : decode cX0_runs 6 = .ok (.getfield 33, 3) := by decide +kernel
theorem dX0_runs_9 : decode cX0_runs 9 = .ok (.iload_n 1, 1) := by decide +kernel
theorem dX0_runs_10 : decode cX0_runs 10 = .ok (.laload, 1) := by decide +kernel
theorem dX0_runs_11 : decode cX0_runs 11 = .ok (.lstore_n 2, 1) := by decide +kernel
theorem dX0_runs_12 : decode cX0_runs 12 = .ok (.iconst 0, 1) := by decide +kernel
theorem dX0_runs_13 : decode cX0_runs 13 = .ok (.istore 4, 2) := by decide +kernel
theorem dX0_runs_15 : decode cX0_runs 15 = .ok (.iconst 0, 1) := by decide +kernel
theorem dX0_runs_16 : decode cX0_runs 16 = .ok (.istore 5, 2) := by decide +kernel
theorem dX0_runs_18 : decode cX0_runs 18 = .ok (.iload 5, 2) := by decide +kernel
theorem dX0_runs_20 : decode cX0_runs 20 = .ok (.aload_n 0, 1) := by decide +kernel
theorem dX0_runs_21 : decode cX0_runs 21 = .ok (.getfield 7, 3) := by decide +kernel
theorem dX0_runs_24 : decode cX0_runs 24 = .ok (.if_icmp .ge 30, 3) := by decide +kernel
theorem dX0_runs_27 : decode cX0_runs 27 = .ok (.lload_n 2, 1) := by decide +kernel
theorem dX0_runs_28 : decode cX0_runs 28 = .ok (.iload 5, 2) := by decide +kernel
theorem dX0_runs_30 : decode cX0_runs 30 = .ok (.invokestatic 101, 3) := by decide +kernel
theorem dX0_runs_33 : decode cX0_runs 33 = .ok (.ifCond .eq 15, 3) := by decide +kernel
theorem dX0_runs_36 : decode cX0_runs 36 = .ok (.aload_n 0, 1) := by decide +kernel
theorem dX0_runs_37 : decode cX0_runs 37 = .ok (.iload 5, 2) := by decide +kernel
theorem dX0_runs_39 : decode cX0_runs 39 = .ok (.invokevirtual 122, 3) := by decide +kernel
theorem dX0_runs_42 : decode cX0_runs 42 = .ok (.ifCond .ne 6, 3) := by decide +kernel
theorem dX0_runs_45 : decode cX0_runs 45 = .ok (.iinc 4 1, 3) := by decide +kernel
theorem dX0_runs_48 : decode cX0_runs 48 = .ok (.iinc 5 1, 3) := by decide +kernel
theorem dX0_runs_51 : decode cX0_runs 51 = .ok (.goto (-33), 3) := by decide +kernel
theorem dX0_runs_54 : decode cX0_runs 54 = .ok (.iload 4, 2) := by decide +kernel
theorem dX0_runs_56 : decode cX0_runs 56 = .ok (.ireturn, 1) := by decide +kernel
theorem dX0_checkAuthor_0 : decode cX0_checkAuthor 0 = .ok (.iload_n 1, 1) := by decide +kernel
theorem dX0_checkAuthor_1 : decode cX0_checkAuthor 1 = .ok (.ifCond .lt 8, 3) := by decide +kernel
theorem dX0_checkAuthor_4 : decode cX0_checkAuthor 4 = .ok (.iload_n 1, 1) := by decide +kernel
theorem dX0_checkAuthor_5 : decode cX0_checkAuthor 5 = .ok (.iconst 4, 1) := by decide +kernel
theorem dX0_checkAuthor_6 : decode cX0_checkAuthor 6 = .ok (.if_icmp .lt 13, 3) := by decide +kernel
theorem dX0_checkAuthor_9 : decode cX0_checkAuthor 9 = .ok (.new 126, 3) := by decide +kernel
theorem dX0_checkAuthor_12 : decode cX0_checkAuthor 12 = .ok (.dup, 1) := by decide +kernel
theorem dX0_checkAuthor_13 : decode cX0_checkAuthor 13 = .ok (.ldc 128, 2) := by decide +kernel
theorem dX0_checkAuthor_15 : decode cX0_checkAuthor 15 = .ok (.invokespecial 130, 3) := by decide +kernel
theorem dX0_checkAuthor_18 : decode cX0_checkAuthor 18 = .ok (.athrow, 1) := by decide +kernel
theorem dX0_checkAuthor_19 : decode cX0_checkAuthor 19 = .ok (.return_, 1) := by decide +kernel
set_option maxRecDepth 20000 in
theorem ggX0_checkEvent_X0_isEvent : GoodIn wsX0_checkEvent wsX0_isEvent := goodIn_r _ [7, 8, 9, 10, 11, 12, 13, 14, 15, 16, 17, 18, 19, 20, 21, 22] (by decide +kernel) (by decide +kernel)
set_option maxRecDepth 20000 in
theorem gX0_checkEvent_X0_isEvent : GoodIn wsX0_checkEvent (wsV RX0 131 RX0 yX0_isEvent wsX0_isEvent) := goodIn_app (goodIn_of _ (by decide +kernel)) ggX0_checkEvent_X0_isEvent
theorem dX0_checkEvent_0 : decode cX0_checkEvent 0 = .ok (.aload_n 0, 1) := by decide +kernel
theorem dX0_checkEvent_1 : decode cX0_checkEvent 1 = .ok (.iload_n 1, 1) := by decide +kernel
theorem dX0_checkEvent_2 : decode cX0_checkEvent 2 = .ok (.invokevirtual 131, 3) := by decide +kernel
theorem dX0_checkEvent_5 : decode cX0_checkEvent 5 = .ok (.ifCond .ne 13, 3) := by decide +kernel
theorem dX0_checkEvent_8 : decode cX0_checkEvent 8 = .ok (.new 126, 3) := by decide +kernel
theorem dX0_checkEvent_11 : decode cX0_checkEvent 11 = .ok (.dup, 1) := by decide +kernel
theorem dX0_checkEvent_12 : decode cX0_checkEvent 12 = .ok (.ldc 134, 2) := by decide +kernel
theorem dX0_checkEvent_14 : decode cX0_checkEvent 14 = .ok (.invokespecial 130, 3) := by decide +kernel
theorem dX0_checkEvent_17 : decode cX0_checkEvent 17 = .ok (.athrow, 1) := by decide +kernel
theorem dX0_checkEvent_18 : decode cX0_checkEvent 18 = .ok (.return_, 1) := by decide +kernel
theorem dX0_checkPlace_0 : decode cX0_checkPlace 0 = .ok (.iload_n 1, 1) := by decide +kernel
theorem dX0_checkPlace_1 : decode cX0_checkPlace 1 = .ok (.ifCond .lt 8, 3) := by decide +kernel
theorem dX0_checkPlace_4 : decode cX0_checkPlace 4 = .ok (.iload_n 1, 1) := by decide +kernel
theorem dX0_checkPlace_5 : decode cX0_checkPlace 5 = .ok (.iload_n 2, 1) := by decide +kernel
theorem dX0_checkPlace_6 : decode cX0_checkPlace 6 = .ok (.if_icmp .lt 13, 3) := by decide +kernel
theorem dX0_checkPlace_9 : decode cX0_checkPlace 9 = .ok (.new 126, 3) := by decide +kernel
theorem dX0_checkPlace_12 : decode cX0_checkPlace 12 = .ok (.dup, 1) := by decide +kernel
theorem dX0_checkPlace_13 : decode cX0_checkPlace 13 = .ok (.ldc 136, 2) := by decide +kernel
theorem dX0_checkPlace_15 : decode cX0_checkPlace 15 = .ok (.invokespecial 130, 3) := by decide +kernel
theorem dX0_checkPlace_18 : decode cX0_checkPlace 18 = .ok (.athrow, 1) := by decide +kernel
theorem dX0_checkPlace_19 : decode cX0_checkPlace 19 = .ok (.return_, 1) := by decide +kernel
theorem dX0_checkRoom_0 : decode cX0_checkRoom 0 = .ok (.aload_n 0, 1) := by decide +kernel
theorem dX0_checkRoom_1 : decode cX0_checkRoom 1 = .ok (.getfield 7, 3) := by decide +kernel
theorem dX0_checkRoom_4 : decode cX0_checkRoom 4 = .ok (.bipush 60, 2) := by decide +kernel
theorem dX0_checkRoom_6 : decode cX0_checkRoom 6 = .ok (.if_icmp .lt 13, 3) := by decide +kernel
theorem dX0_checkRoom_9 : decode cX0_checkRoom 9 = .ok (.new 138, 3) := by decide +kernel
theorem dX0_checkRoom_12 : decode cX0_checkRoom 12 = .ok (.dup, 1) := by decide +kernel
theorem dX0_checkRoom_13 : decode cX0_checkRoom 13 = .ok (.ldc 140, 2) := by decide +kernel
theorem dX0_checkRoom_15 : decode cX0_checkRoom 15 = .ok (.invokespecial 142, 3) := by decide +kernel
theorem dX0_checkRoom_18 : decode cX0_checkRoom 18 = .ok (.athrow, 1) := by decide +kernel
theorem dX0_checkRoom_19 : decode cX0_checkRoom 19 = .ok (.return_, 1) := by decide +kernel
theorem dX0_isEvent_0 : decode cX0_isEvent 0 = .ok (.iload_n 1, 1) := by decide +kernel
theorem dX0_isEvent_1 : decode cX0_isEvent 1 = .ok (.ifCond .lt 15, 3) := by decide +kernel
theorem dX0_isEvent_4 : decode cX0_isEvent 4 = .ok (.iload_n 1, 1) := by decide +kernel
theorem dX0_isEvent_5 : decode cX0_isEvent 5 = .ok (.aload_n 0, 1) := by decide +kernel
theorem dX0_isEvent_6 : decode cX0_isEvent 6 = .ok (.getfield 7, 3) := by decide +kernel
theorem dX0_isEvent_9 : decode cX0_isEvent 9 = .ok (.if_icmp .ge 7, 3) := by decide +kernel
theorem dX0_isEvent_12 : decode cX0_isEvent 12 = .ok (.iconst 1, 1) := by decide +kernel
theorem dX0_isEvent_13 : decode cX0_isEvent 13 = .ok (.goto 4, 3) := by decide +kernel
theorem dX0_isEvent_16 : decode cX0_isEvent 16 = .ok (.iconst 0, 1) := by decide +kernel
theorem dX0_isEvent_17 : decode cX0_isEvent 17 = .ok (.ireturn, 1) := by decide +kernel
theorem dX0_only_0 : decode cX0_only 0 = .ok (.lconst 1, 1) := by decide +kernel
theorem dX0_only_1 : decode cX0_only 1 = .ok (.iload_n 0, 1) := by decide +kernel
theorem dX0_only_2 : decode cX0_only 2 = .ok (.lshl, 1) := by decide +kernel
theorem dX0_only_3 : decode cX0_only 3 = .ok (.lreturn, 1) := by decide +kernel
set_option maxRecDepth 20000 in
theorem ggX0_has_X0_only : GoodIn wsX0_has wsX0_only := goodIn_r _ [4] (by decide +kernel) (by decide +kernel)
set_option maxRecDepth 20000 in
theorem gX0_has_X0_only : GoodIn wsX0_has (va_wsS RX0 143 yX0_only wsX0_only) := goodIn_app (goodIn_of _ (by decide +kernel)) ggX0_has_X0_only
theorem dX0_has_0 : decode cX0_has 0 = .ok (.lload_n 0, 1) := by decide +kernel
theorem dX0_has_1 : decode cX0_has 1 = .ok (.iload_n 2, 1) := by decide +kernel
theorem dX0_has_2 : decode cX0_has 2 = .ok (.invokestatic 143, 3) := by decide +kernel
theorem dX0_has_5 : decode cX0_has 5 = .ok (.land, 1) := by decide +kernel
theorem dX0_has_6 : decode cX0_has 6 = .ok (.lconst 0, 1) := by decide +kernel
theorem dX0_has_7 : decode cX0_has 7 = .ok (.lcmp, 1) := by decide +kernel
theorem dX0_has_8 : decode cX0_has 8 = .ok (.ifCond .eq 7, 3) := by decide +kernel
theorem dX0_has_11 : decode cX0_has 11 = .ok (.iconst 1, 1) := by decide +kernel
theorem dX0_has_12 : decode cX0_has 12 = .ok (.goto 4, 3) := by decide +kernel
theorem dX0_has_15 : decode cX0_has 15 = .ok (.iconst 0, 1) := by decide +kernel
theorem dX0_has_16 : decode cX0_has 16 = .ok (.ireturn, 1) := by decide +kernel
set_option maxRecDepth 20000 in
theorem ggX0_versionOfEvent_X0_only : GoodIn wsX0_versionOfEvent wsX0_only := goodIn_r _ [5] (by decide +kernel) (by decide +kernel)
set_option maxRecDepth 20000 in
theorem gX0_versionOfEvent_X0_only : GoodIn wsX0_versionOfEvent (va_wsS RX0 143 yX0_only wsX0_only) := goodIn_app (goodIn_of _ (by decide +kernel)) ggX0_versionOfEvent_X0_only
theorem dX0_versionOfEvent_0 : decode cX0_versionOfEvent 0 = .ok (.aload_n 0, 1) := by decide +kernel
theorem dX0_versionOfEvent_1 : decode cX0_versionOfEvent 1 = .ok (.getfield 27, 3) := by decide +kernel
theorem dX0_versionOfEvent_4 : decode cX0_versionOfEvent 4 = .ok (.iload_n 1, 1) := by decide +kernel
theorem dX0_versionOfEvent_5 : decode cX0_versionOfEvent 5 = .ok (.laload, 1) := by decide +kernel
theorem dX0_versionOfEvent_6 : decode cX0_versionOfEvent 6 = .ok (.iload_n 1, 1) := by decide +kernel
theorem dX0_versionOfEvent_7 : decode cX0_versionOfEvent 7 = .ok (.invokestatic 143, 3) := by decide +kernel
theorem dX0_versionOfEvent_10 : decode cX0_versionOfEvent 10 = .ok (.lor, 1) := by decide +kernel
theorem dX0_versionOfEvent_11 : decode cX0_versionOfEvent 11 = .ok (.lreturn, 1) := by decide +kernel
set_option maxRecDepth 20000 in
theorem ggX0_relatedTo_X0_versionOfEvent : GoodIn wsX0_relatedTo wsX0_versionOfEvent := goodIn_r _ [6, 7, 8, 9, 5, 10, 11, 12, 13, 14, 15, 16, 17, 18, 19, 20, 21, 22, 23, 24] (by decide +kernel) (by decide +kernel)
set_option maxRecDepth 20000 in
theorem gX0_relatedTo_X0_versionOfEvent : GoodIn wsX0_relatedTo (wsV RX0 90 RX0 yX0_versionOfEvent wsX0_versionOfEvent) := goodIn_app (goodIn_of _ (by decide +kernel)) ggX0_relatedTo_X0_versionOfEvent
theorem dX0_relatedTo_0 : decode cX0_relatedTo 0 = .ok (.aload_n 0, 1) := by decide +kernel
theorem dX0_relatedTo_1 : decode cX0_relatedTo 1 = .ok (.iload_n 1, 1) := by decide +kernel
theorem dX0_relatedTo_2 : decode cX0_relatedTo 2 = .ok (.invokevirtual 90, 3) := by decide +kernel
theorem dX0_relatedTo_5 : decode cX0_relatedTo 5 = .ok (.aload_n 0, 1) := by decide +kernel
theorem dX0_relatedTo_6 : decode cX0_relatedTo 6 = .ok (.getfield 30, 3) := by decide +kernel
theorem dX0_relatedTo_9 : decode cX0_relatedTo 9 = .ok (.iload_n 1, 1) := by decide +kernel
theorem dX0_relatedTo_10 : decode cX0_relatedTo 10 = .ok (.laload, 1) := by decide +kernel
theorem dX0_relatedTo_11 : decode cX0_relatedTo 11 = .ok (.lor, 1) := by decide +kernel
theorem dX0_relatedTo_12 : decode cX0_relatedTo 12 = .ok (.lreturn, 1) := by decide +kernel
set_option maxRecDepth 20000 in
theorem ggX0_headsOf_X0_has : GoodIn wsX0_headsOf wsX0_has := goodIn_r _ [7, 8, 9, 6, 10] (by decide +kernel) (by decide +kernel)
set_option maxRecDepth 20000 in
theorem gX0_headsOf_X0_has : GoodIn wsX0_headsOf (va_wsS RX0 101 yX0_has wsX0_has) := goodIn_app (goodIn_of _ (by decide +kernel)) ggX0_headsOf_X0_has
theorem dX0_headsOf_0 : decode cX0_headsOf 0 = .ok (.lconst 0, 1) := by decide +kernel
theorem dX0_headsOf_1 : decode cX0_headsOf 1 = .ok (.lstore_n 3, 1) := by decide +kernel
theorem dX0_headsOf_2 : decode cX0_headsOf 2 = .ok (.iconst 0, 1) := by decide +kernel
theorem dX0_headsOf_3 : decode cX0_headsOf 3 = .ok (.istore 5, 2) := by decide +kernel
theorem dX0_headsOf_5 : decode cX0_headsOf 5 = .ok (.iload 5, 2) := by decide +kernel
theorem dX0_headsOf_7 : decode cX0_headsOf 7 = .ok (.aload_n 0, 1) := by decide +kernel
theorem dX0_headsOf_8 : decode cX0_headsOf 8 = .ok (.getfield 7, 3) := by decide +kernel
theorem dX0_headsOf_11 : decode cX0_headsOf 11 = .ok (.if_icmp .ge 28, 3) := by decide +kernel
theorem dX0_headsOf_14 : decode cX0_headsOf 14 = .ok (.lload_n 1, 1) := by decide +kernel
theorem dX0_headsOf_15 : decode cX0_headsOf 15 = .ok (.iload 5, 2) := by decide +kernel
theorem dX0_headsOf_17 : decode cX0_headsOf 17 = .ok (.invokestatic 101, 3) := by decide +kernel
theorem dX0_headsOf_20 : decode cX0_headsOf 20 = .ok (.ifCond .eq 13, 3) := by decide +kernel
theorem dX0_headsOf_23 : decode cX0_headsOf 23 = .ok (.lload_n 3, 1) := by decide +kernel
theorem dX0_headsOf_24 : decode cX0_headsOf 24 = .ok (.aload_n 0, 1) := by decide +kernel
theorem dX0_headsOf_25 : decode cX0_headsOf 25 = .ok (.getfield 23, 3) := by decide +kernel
theorem dX0_headsOf_28 : decode cX0_headsOf 28 = .ok (.iload 5, 2) := by decide +kernel
theorem dX0_headsOf_30 : decode cX0_headsOf 30 = .ok (.laload, 1) := by decide +kernel
theorem dX0_headsOf_31 : decode cX0_headsOf 31 = .ok (.lor, 1) := by decide +kernel
theorem dX0_headsOf_32 : decode cX0_headsOf 32 = .ok (.lstore_n 3, 1) := by decide +kernel
theorem dX0_headsOf_33 : decode cX0_headsOf 33 = .ok (.iinc 5 1, 3) := by decide +kernel
theorem dX0_headsOf_36 : decode cX0_headsOf 36 = .ok (.goto (-31), 3) := by decide +kernel
theorem dX0_headsOf_39 : decode cX0_headsOf 39 = .ok (.lload_n 1, 1) := by decide +kernel
theorem dX0_headsOf_40 : decode cX0_headsOf 40 = .ok (.lload_n 3, 1) := by decide +kernel
theorem dX0_headsOf_41 : decode cX0_headsOf 41 = .ok (.ldc2_w 112, 3) := by decide +kernel
theorem dX0_headsOf_44 : decode cX0_headsOf 44 = .ok (.lxor, 1) := by decide +kernel
theorem dX0_headsOf_45 : decode cX0_headsOf 45 = .ok (.land, 1) := by decide +kernel
theorem dX0_headsOf_46 : decode cX0_headsOf 46 = .ok (.lreturn, 1) := by decide +kernel
set_option maxRecDepth 20000 in
theorem ggX0_criticalOf_X0_has : GoodIn wsX0_criticalOf wsX0_has := goodIn_r _ [6, 7, 8, 5, 9] (by decide +kernel) (by decide +kernel)
set_option maxRecDepth 20000 in
theorem gX0_criticalOf_X0_has : GoodIn wsX0_criticalOf (va_wsS RX0 101 yX0_has wsX0_has) := goodIn_app (goodIn_of _ (by decide +kernel)) ggX0_criticalOf_X0_has
set_option maxRecDepth 20000 in
theorem ggX0_criticalOf_X0_relatedTo : GoodIn wsX0_criticalOf wsX0_relatedTo := goodIn_r _ [13, 14, 15, 16, 17, 5, 18, 19, 7, 8, 9, 20, 21, 22, 23, 24, 25, 26, 27, 28, 29, 30, 31, 32, 33] (by decide +kernel) (by decide +kernel)
set_option maxRecDepth 20000 in
theorem gX0_criticalOf_X0_relatedTo : GoodIn wsX0_criticalOf (wsV RX0 109 RX0 yX0_relatedTo wsX0_relatedTo) := goodIn_app (goodIn_of _ (by decide +kernel)) ggX0_criticalOf_X0_relatedTo
set_option maxRecDepth 20000 in
theorem ggX0_criticalOf_X0_only : GoodIn wsX0_criticalOf wsX0_only := goodIn_r _ [9] (by decide +kernel) (by decide +kernel)
set_option maxRecDepth 20000 in
theorem gX0_criticalOf_X0_only : GoodIn wsX0_criticalOf (va_wsS RX0 143 yX0_only wsX0_only) := goodIn_app (goodIn_of _ (by decide +kernel)) ggX0_criticalOf_X0_only
theorem dX0_criticalOf_0 : decode cX0_criticalOf 0 = .ok (.lconst 0, 1) := by decide +kernel
theorem dX0_criticalOf_1 : decode cX0_criticalOf 1 = .ok (.lstore_n 3, 1) := by decide +kernel
theorem dX0_criticalOf_2 : decode cX0_criticalOf 2 = .ok (.iconst 0, 1) := by decide +kernel
theorem dX0_criticalOf_3 : decode cX0_criticalOf 3 = .ok (.istore 5, 2) := by decide +kernel
theorem dX0_criticalOf_5 : decode cX0_criticalOf 5 = .ok (.iload 5, 2) := by decide +kernel
theorem dX0_criticalOf_7 : decode cX0_criticalOf 7 = .ok (.aload_n 0, 1) := by decide +kernel
theorem dX0_criticalOf_8 : decode cX0_criticalOf 8 = .ok (.getfield 7, 3) := by decide +kernel
theorem dX0_criticalOf_11 : decode cX0_criticalOf 11 = .ok (.if_icmp .ge 43, 3) := by decide +kernel
theorem dX0_criticalOf_14 : decode cX0_criticalOf 14 = .ok (.lload_n 1, 1) := by decide +kernel
theorem dX0_criticalOf_15 : decode cX0_criticalOf 15 = .ok (.iload 5, 2) := by decide +kernel
theorem dX0_criticalOf_17 : decode cX0_criticalOf 17 = .ok (.invokestatic 101, 3) := by decide +kernel
theorem dX0_criticalOf_20 : decode cX0_criticalOf 20 = .ok (.ifCond .eq 28, 3) := by decide +kernel
theorem dX0_criticalOf_23 : decode cX0_criticalOf 23 = .ok (.lload_n 1, 1) := by decide +kernel
theorem dX0_criticalOf_24 : decode cX0_criticalOf 24 = .ok (.aload_n 0, 1) := by decide +kernel
theorem dX0_criticalOf_25 : decode cX0_criticalOf 25 = .ok (.iload 5, 2) := by decide +kernel
theorem dX0_criticalOf_27 : decode cX0_criticalOf 27 = .ok (.invokevirtual 109, 3) := by decide +kernel
theorem dX0_criticalOf_30 : decode cX0_criticalOf 30 = .ok (.ldc2_w 112, 3) := by decide +kernel
theorem dX0_criticalOf_33 : decode cX0_criticalOf 33 = .ok (.lxor, 1) := by decide +kernel
theorem dX0_criticalOf_34 : decode cX0_criticalOf 34 = .ok (.land, 1) := by decide +kernel
theorem dX0_criticalOf_35 : decode cX0_criticalOf 35 = .ok (.lconst 0, 1) := by decide +kernel
theorem dX0_criticalOf_36 : decode cX0_criticalOf 36 = .ok (.lcmp, 1) := by decide +kernel
theorem dX0_criticalOf_37 : decode cX0_criticalOf 37 = .ok (.ifCond .ne 11, 3) := by decide +kernel
theorem dX0_criticalOf_40 : decode cX0_criticalOf 40 = .ok (.lload_n 3, 1) := by decide +kernel
theorem dX0_criticalOf_41 : decode cX0_criticalOf 41 = .ok (.iload 5, 2) := by decide +kernel
theorem dX0_criticalOf_43 : decode cX0_criticalOf 43 = .ok (.invokestatic 143, 3) := by decide +kernel
theorem dX0_criticalOf_46 : decode cX0_criticalOf 46 = .ok (.lor, 1) := by decide +kernel
theorem dX0_criticalOf_47 : decode cX0_criticalOf 47 = .ok (.lstore_n 3, 1) := by decide +kernel
theorem dX0_criticalOf_48 : decode cX0_criticalOf 48 = .ok (.iinc 5 1, 3) := by decide +kernel
theorem dX0_criticalOf_51 : decode cX0_criticalOf 51 = .ok (.goto (-46), 3) := by decide +kernel
theorem dX0_criticalOf_54 : decode cX0_criticalOf 54 = .ok (.lload_n 3, 1) := by decide +kernel
theorem dX0_criticalOf_55 : decode cX0_criticalOf 55 = .ok (.lreturn, 1) := by decide +kernel
set_option maxRecDepth 20000 in
theorem ggX0_continuesRun_X0_isInsert : GoodIn wsX0_continuesRun wsX0_isInsert := goodIn_r _ [8, 9, 18, 19, 20, 21, 22, 23, 24, 25, 26, 27, 28, 29, 30, 31] (by decide +kernel) (by decide +kernel)
set_option maxRecDepth 20000 in
theorem gX0_continuesRun_X0_isInsert : GoodIn wsX0_continuesRun (wsV RX0 146 RX0 yX0_isInsert wsX0_isInsert) := goodIn_app (goodIn_of _ (by decide +kernel)) ggX0_continuesRun_X0_isInsert
set_option maxRecDepth 20000 in
theorem ggX0_continuesRun_X0_isEvent : GoodIn wsX0_continuesRun wsX0_isEvent := goodIn_r _ [13, 14, 18, 19, 20, 21, 22, 23, 24, 25, 26, 27, 28, 29, 30, 31] (by decide +kernel) (by decide +kernel)
set_option maxRecDepth 20000 in
theorem gX0_continuesRun_X0_isEvent : GoodIn wsX0_continuesRun (wsV RX0 131 RX0 yX0_isEvent wsX0_isEvent) := goodIn_app (goodIn_of _ (by decide +kernel)) ggX0_continuesRun_X0_isEvent
set_option maxRecDepth 20000 in
theorem ggX0_continuesRun_X0_only : GoodIn wsX0_continuesRun wsX0_only := goodIn_r _ [17] (by decide +kernel) (by decide +kernel)
set_option maxRecDepth 20000 in
theorem gX0_continuesRun_X0_only : GoodIn wsX0_continuesRun (va_wsS RX0 143 yX0_only wsX0_only) := goodIn_app (goodIn_of _ (by decide +kernel)) ggX0_continuesRun_X0_only
theorem dX0_continuesRun_0 : decode cX0_continuesRun 0 = .ok (.aload_n 0, 1) := by decide +kernel
theorem dX0_continuesRun_1 : decode cX0_continuesRun 1 = .ok (.getfield 20, 3) := by decide +kernel
theorem dX0_continuesRun_4 : decode cX0_continuesRun 4 = .ok (.iload_n 1, 1) := by decide +kernel
theorem dX0_continuesRun_5 : decode cX0_continuesRun 5 = .ok (.iaload, 1) := by decide +kernel
theorem dX0_continuesRun_6 : decode cX0_continuesRun 6 = .ok (.istore_n 2, 1) := by decide +kernel
theorem dX0_continuesRun_7 : decode cX0_continuesRun 7 = .ok (.aload_n 0, 1) := by decide +kernel
theorem dX0_continuesRun_8 : decode cX0_continuesRun 8 = .ok (.iload_n 1, 1) := by decide +kernel
theorem dX0_continuesRun_9 : decode cX0_continuesRun 9 = .ok (.invokevirtual 146, 3) := by decide +kernel
theorem dX0_continuesRun_12 : decode cX0_continuesRun 12 = .ok (.ifCond .eq 44, 3) := by decide +kernel
theorem dX0_continuesRun_15 : decode cX0_continuesRun 15 = .ok (.aload_n 0, 1) := by decide +kernel
theorem dX0_continuesRun_16 : decode cX0_continuesRun 16 = .ok (.iload_n 2, 1) := by decide +kernel
theorem dX0_continuesRun_17 : decode cX0_continuesRun 17 = .ok (.invokevirtual 131, 3) := by decide +kernel
theorem dX0_continuesRun_20 : decode cX0_continuesRun 20 = .ok (.ifCond .eq 36, 3) := by decide +kernel
theorem dX0_continuesRun_23 : decode cX0_continuesRun 23 = .ok (.aload_n 0, 1) := by decide +kernel
theorem dX0_continuesRun_24 : decode cX0_continuesRun 24 = .ok (.getfield 23, 3) := by decide +kernel
theorem dX0_continuesRun_27 : decode cX0_continuesRun 27 = .ok (.iload_n 1, 1) := by decide +kernel
theorem dX0_continuesRun_28 : decode cX0_continuesRun 28 = .ok (.laload, 1) := by decide +kernel
theorem dX0_continuesRun_29 : decode cX0_continuesRun 29 = .ok (.iload_n 2, 1) := by decide +kernel
theorem dX0_continuesRun_30 : decode cX0_continuesRun 30 = .ok (.invokestatic 143, 3) := by decide +kernel
theorem dX0_continuesRun_33 : decode cX0_continuesRun 33 = .ok (.lcmp, 1) := by decide +kernel
theorem dX0_continuesRun_34 : decode cX0_continuesRun 34 = .ok (.ifCond .ne 22, 3) := by decide +kernel
theorem dX0_continuesRun_37 : decode cX0_continuesRun 37 = .ok (.aload_n 0, 1) := by decide +kernel
theorem dX0_continuesRun_38 : decode cX0_continuesRun 38 = .ok (.getfield 13, 3) := by decide +kernel
theorem dX0_continuesRun_41 : decode cX0_continuesRun 41 = .ok (.iload_n 1, 1) := by decide +kernel
theorem dX0_continuesRun_42 : decode cX0_continuesRun 42 = .ok (.iaload, 1) := by decide +kernel
theorem dX0_continuesRun_43 : decode cX0_continuesRun 43 = .ok (.aload_n 0, 1) := by decide +kernel
theorem dX0_continuesRun_44 : decode cX0_continuesRun 44 = .ok (.getfield 13, 3) := by decide +kernel
theorem dX0_continuesRun_47 : decode cX0_continuesRun 47 = .ok (.iload_n 2, 1) := by decide +kernel
theorem dX0_continuesRun_48 : decode cX0_continuesRun 48 = .ok (.iaload, 1) := by decide +kernel
theorem dX0_continuesRun_49 : decode cX0_continuesRun 49 = .ok (.if_icmp .ne 7, 3) := by decide +kernel
theorem dX0_continuesRun_52 : decode cX0_continuesRun 52 = .ok (.iconst 1, 1) := by decide +kernel
theorem dX0_continuesRun_53 : decode cX0_continuesRun 53 = .ok (.goto 4, 3) := by decide +kernel
theorem dX0_continuesRun_56 : decode cX0_continuesRun 56 = .ok (.iconst 0, 1) := by decide +kernel
theorem dX0_continuesRun_57 : decode cX0_continuesRun 57 = .ok (.ireturn, 1) := by decide +kernel
set_option maxRecDepth 20000 in
theorem ggX0_addEvent_X0_headsOf : GoodIn wsX0_addEvent wsX0_headsOf := goodIn_r _ [12, 1, 6, 13, 14, 15, 11, 16, 17, 18, 19, 25, 26, 27, 28, 29, 30, 31, 32, 33, 34, 35, 36, 37, 38] (by decide +kernel) (by decide +kernel)
set_option maxRecDepth 20000 in
theorem gX0_addEvent_X0_headsOf : GoodIn wsX0_addEvent (wsV RX0 105 RX0 yX0_headsOf wsX0_headsOf) := goodIn_app (goodIn_of _ (by decide +kernel)) ggX0_addEvent_X0_headsOf
set_option maxRecDepth 20000 in
theorem ggX0_addEvent_X0_markLater : GoodIn wsX0_addEvent wsX0_markLater := goodIn_r _ [23, 1, 24, 14, 15, 11, 16, 17, 18, 19, 25, 26, 27, 28, 29, 30, 31, 32, 33, 34, 35, 36, 37, 38] (by decide +kernel) (by decide +kernel)
set_option maxRecDepth 20000 in
theorem gX0_addEvent_X0_markLater : GoodIn wsX0_addEvent (wsV RX0 149 RX0 yX0_markLater wsX0_markLater) := goodIn_app (goodIn_of _ (by decide +kernel)) ggX0_addEvent_X0_markLater
set_option maxRecDepth 20000 in
theorem ggX0_addEvent_X0_only : GoodIn wsX0_addEvent wsX0_only := goodIn_r _ [19] (by decide +kernel) (by decide +kernel)
set_option maxRecDepth 20000 in
theorem gX0_addEvent_X0_only : GoodIn wsX0_addEvent (va_wsS RX0 143 yX0_only wsX0_only) := goodIn_app (goodIn_of _ (by decide +kernel)) ggX0_addEvent_X0_only
theorem dX0_addEvent_0 : decode cX0_addEvent 0 = .ok (.aload_n 0, 1) := by decide +kernel
theorem dX0_addEvent_1 : decode cX0_addEvent 1 = .ok (.getfield 7, 3) := by decide +kernel
theorem dX0_addEvent_4 : decode cX0_addEvent 4 = .ok (.istore 4, 2) := by decide +kernel
theorem dX0_addEvent_6 : decode cX0_addEvent 6 = .ok (.aload_n 0, 1) := by decide +kernel
theorem dX0_addEvent_7 : decode cX0_addEvent 7 = .ok (.getfield 33, 3) := by decide +kernel
theorem dX0_addEvent_10 : decode cX0_addEvent 10 = .ok (.iload_n 1, 1) := by decide +kernel
theorem dX0_addEvent_11 : decode cX0_addEvent 11 = .ok (.laload, 1) := by decide +kernel
theorem dX0_addEvent_12 : decode cX0_addEvent 12 = .ok (.lstore 5, 2) := by decide +kernel
theorem dX0_addEvent_14 : decode cX0_addEvent 14 = .ok (.aload_n 0, 1) := by decide +kernel
theorem dX0_addEvent_15 : decode cX0_addEvent 15 = .ok (.getfield 13, 3) := by decide +kernel
theorem dX0_addEvent_18 : decode cX0_addEvent 18 = .ok (.iload 4, 2) := by decide +kernel
theorem dX0_addEvent_20 : decode cX0_addEvent 20 = .ok (.iload_n 1, 1) := by decide +kernel
theorem dX0_addEvent_21 : decode cX0_addEvent 21 = .ok (.iastore, 1) := by decide +kernel
theorem dX0_addEvent_22 : decode cX0_addEvent 22 = .ok (.aload_n 0, 1) := by decide +kernel
theorem dX0_addEvent_23 : decode cX0_addEvent 23 = .ok (.getfield 17, 3) := by decide +kernel
theorem dX0_addEvent_26 : decode cX0_addEvent 26 = .ok (.iload 4, 2) := by decide +kernel
theorem dX0_addEvent_28 : decode cX0_addEvent 28 = .ok (.iload_n 2, 1) := by decide +kernel
theorem dX0_addEvent_29 : decode cX0_addEvent 29 = .ok (.iastore, 1) := by decide +kernel
theorem dX0_addEvent_30 : decode cX0_addEvent 30 = .ok (.aload_n 0, 1) := by decide +kernel
theorem dX0_addEvent_31 : decode cX0_addEvent 31 = .ok (.getfield 20, 3) := by decide +kernel
theorem dX0_addEvent_34 : decode cX0_addEvent 34 = .ok (.iload 4, 2) := by decide +kernel
theorem dX0_addEvent_36 : decode cX0_addEvent 36 = .ok (.iload_n 3, 1) := by decide +kernel
theorem dX0_addEvent_37 : decode cX0_addEvent 37 = .ok (.iastore, 1) := by decide +kernel
theorem dX0_addEvent_38 : decode cX0_addEvent 38 = .ok (.aload_n 0, 1) := by decide +kernel
theorem dX0_addEvent_39 : decode cX0_addEvent 39 = .ok (.getfield 23, 3) := by decide +kernel
theorem dX0_addEvent_42 : decode cX0_addEvent 42 = .ok (.iload 4, 2) := by decide +kernel
theorem dX0_addEvent_44 : decode cX0_addEvent 44 = .ok (.aload_n 0, 1) := by decide +kernel
theorem dX0_addEvent_45 : decode cX0_addEvent 45 = .ok (.lload 5, 2) := by decide +kernel
theorem dX0_addEvent_47 : decode cX0_addEvent 47 = .ok (.invokevirtual 105, 3) := by decide +kernel
theorem dX0_addEvent_50 : decode cX0_addEvent 50 = .ok (.lastore, 1) := by decide +kernel
theorem dX0_addEvent_51 : decode cX0_addEvent 51 = .ok (.aload_n 0, 1) := by decide +kernel
theorem dX0_addEvent_52 : decode cX0_addEvent 52 = .ok (.getfield 27, 3) := by decide +kernel
theorem dX0_addEvent_55 : decode cX0_addEvent 55 = .ok (.iload 4, 2) := by decide +kernel
theorem dX0_addEvent_57 : decode cX0_addEvent 57 = .ok (.lload 5, 2) := by decide +kernel
theorem dX0_addEvent_59 : decode cX0_addEvent 59 = .ok (.lastore, 1) := by decide +kernel
theorem dX0_addEvent_60 : decode cX0_addEvent 60 = .ok (.aload_n 0, 1) := by decide +kernel
theorem dX0_addEvent_61 : decode cX0_addEvent 61 = .ok (.lload 5, 2) := by decide +kernel
theorem dX0_addEvent_63 : decode cX0_addEvent 63 = .ok (.iload 4, 2) := by decide +kernel
theorem dX0_addEvent_65 : decode cX0_addEvent 65 = .ok (.invokevirtual 149, 3) := by decide +kernel
theorem dX0_addEvent_68 : decode cX0_addEvent 68 = .ok (.aload_n 0, 1) := by decide +kernel
theorem dX0_addEvent_69 : decode cX0_addEvent 69 = .ok (.getfield 33, 3) := by decide +kernel
theorem dX0_addEvent_72 : decode cX0_addEvent 72 = .ok (.iload_n 1, 1) := by decide +kernel
theorem dX0_addEvent_73 : decode cX0_addEvent 73 = .ok (.lload 5, 2) := by decide +kernel
theorem dX0_addEvent_75 : decode cX0_addEvent 75 = .ok (.iload 4, 2) := by decide +kernel
theorem dX0_addEvent_77 : decode cX0_addEvent 77 = .ok (.invokestatic 143, 3) := by decide +kernel
theorem dX0_addEvent_80 : decode cX0_addEvent 80 = .ok (.lor, 1) := by decide +kernel
theorem dX0_addEvent_81 : decode cX0_addEvent 81 = .ok (.lastore, 1) := by decide +kernel
theorem dX0_addEvent_82 : decode cX0_addEvent 82 = .ok (.aload_n 0, 1) := by decide +kernel
theorem dX0_addEvent_83 : decode cX0_addEvent 83 = .ok (.dup, 1) := by decide +kernel
theorem dX0_addEvent_84 : decode cX0_addEvent 84 = .ok (.getfield 7, 3) := by decide +kernel
theorem dX0_addEvent_87 : decode cX0_addEvent 87 = .ok (.iconst 1, 1) := by decide +kernel
theorem dX0_addEvent_88 : decode cX0_addEvent 88 = .ok (.iadd, 1) := by decide +kernel
theorem dX0_addEvent_89 : decode cX0_addEvent 89 = .ok (.putfield 7, 3) := by decide +kernel
theorem dX0_addEvent_92 : decode cX0_addEvent 92 = .ok (.iload 4, 2) := by decide +kernel
theorem dX0_addEvent_94 : decode cX0_addEvent 94 = .ok (.ireturn, 1) := by decide +kernel
set_option maxRecDepth 20000 in
theorem ggX0_markLater_X0_has : GoodIn wsX0_markLater wsX0_has := goodIn_r _ [6, 7, 8, 5, 9] (by decide +kernel) (by decide +kernel)
set_option maxRecDepth 20000 in
theorem gX0_markLater_X0_has : GoodIn wsX0_markLater (va_wsS RX0 101 yX0_has wsX0_has) := goodIn_app (goodIn_of _ (by decide +kernel)) ggX0_markLater_X0_has
set_option maxRecDepth 20000 in
theorem ggX0_markLater_X0_only : GoodIn wsX0_markLater wsX0_only := goodIn_r _ [9] (by decide +kernel) (by decide +kernel)
set_option maxRecDepth 20000 in
theorem gX0_markLater_X0_only : GoodIn wsX0_markLater (va_wsS RX0 143 yX0_only wsX0_only) := goodIn_app (goodIn_of _ (by decide +kernel)) ggX0_markLater_X0_only
theorem dX0_markLater_0 : decode cX0_markLater 0 = .ok (.iconst 0, 1) := by decide +kernel
theorem dX0_markLater_1 : decode cX0_markLater 1 = .ok (.istore 4, 2) := by decide +kernel
theorem dX0_markLater_3 : decode cX0_markLater 3 = .ok (.iload 4, 2) := by decide +kernel
theorem dX0_markLater_5 : decode cX0_markLater 5 = .ok (.aload_n 0, 1) := by decide +kernel
theorem dX0_markLater_6 : decode cX0_markLater 6 = .ok (.getfield 7, 3) := by decide +kernel
theorem dX0_markLater_9 : decode cX0_markLater 9 = .ok (.if_icmp .ge 32, 3) := by decide +kernel
theorem dX0_markLater_12 : decode cX0_markLater 12 = .ok (.lload_n 1, 1) := by decide +kernel
theorem dX0_markLater_13 : decode cX0_markLater 13 = .ok (.iload 4, 2) := by decide +kernel
theorem dX0_markLater_15 : decode cX0_markLater 15 = .ok (.invokestatic 101, 3) := by decide +kernel
theorem dX0_markLater_18 : decode cX0_markLater 18 = .ok (.ifCond .eq 17, 3) := by decide +kernel
theorem dX0_markLater_21 : decode cX0_markLater 21 = .ok (.aload_n 0, 1) := by decide +kernel
theorem dX0_markLater_22 : decode cX0_markLater 22 = .ok (.getfield 30, 3) := by decide +kernel
theorem dX0_markLater_25 : decode cX0_markLater 25 = .ok (.iload 4, 2) := by decide +kernel
theorem dX0_markLater_27 : decode cX0_markLater 27 = .ok (.dup2, 1) := by decide +kernel
theorem dX0_markLater_28 : decode cX0_markLater 28 = .ok (.laload, 1) := by decide +kernel
theorem dX0_markLater_29 : decode cX0_markLater 29 = .ok (.iload_n 3, 1) := by decide +kernel
theorem dX0_markLater_30 : decode cX0_markLater 30 = .ok (.invokestatic 143, 3) := by decide +kernel
theorem dX0_markLater_33 : decode cX0_markLater 33 = .ok (.lor, 1) := by decide +kernel
theorem dX0_markLater_34 : decode cX0_markLater 34 = .ok (.lastore, 1) := by decide +kernel
theorem dX0_markLater_35 : decode cX0_markLater 35 = .ok (.iinc 4 1, 3) := by decide +kernel
theorem dX0_markLater_38 : decode cX0_markLater 38 = .ok (.goto (-35), 3) := by decide +kernel
theorem dX0_markLater_41 : decode cX0_markLater 41 = .ok (.return_, 1) := by decide +kernel
set_option maxRecDepth 20000 in
theorem ggX0_hangLetter_X0_isEvent : GoodIn wsX0_hangLetter wsX0_isEvent := goodIn_r _ [8, 9, 10, 11, 12, 13, 14, 15, 16, 17, 18, 19, 20, 21, 22, 23] (by decide +kernel) (by decide +kernel)
set_option maxRecDepth 20000 in
theorem gX0_hangLetter_X0_isEvent : GoodIn wsX0_hangLetter (wsV RX0 131 RX0 yX0_isEvent wsX0_isEvent) := goodIn_app (goodIn_of _ (by decide +kernel)) ggX0_hangLetter_X0_isEvent
theorem dX0_hangLetter_0 : decode cX0_hangLetter 0 = .ok (.aload_n 0, 1) := by decide +kernel
theorem dX0_hangLetter_1 : decode cX0_hangLetter 1 = .ok (.getfield 39, 3) := by decide +kernel
theorem dX0_hangLetter_4 : decode cX0_hangLetter 4 = .ok (.iload_n 1, 1) := by decide +kernel
theorem dX0_hangLetter_5 : decode cX0_hangLetter 5 = .ok (.iconst (-1), 1) := by decide +kernel
theorem dX0_hangLetter_6 : decode cX0_hangLetter 6 = .ok (.iastore, 1) := by decide +kernel
theorem dX0_hangLetter_7 : decode cX0_hangLetter 7 = .ok (.aload_n 0, 1) := by decide +kernel
theorem dX0_hangLetter_8 : decode cX0_hangLetter 8 = .ok (.iload_n 2, 1) := by decide +kernel
theorem dX0_hangLetter_9 : decode cX0_hangLetter 9 = .ok (.invokevirtual 131, 3) := by decide +kernel
theorem dX0_hangLetter_12 : decode cX0_hangLetter 12 = .ok (.ifCond .eq 25, 3) := by decide +kernel
theorem dX0_hangLetter_15 : decode cX0_hangLetter 15 = .ok (.aload_n 0, 1) := by decide +kernel
theorem dX0_hangLetter_16 : decode cX0_hangLetter 16 = .ok (.getfield 42, 3) := by decide +kernel
theorem dX0_hangLetter_19 : decode cX0_hangLetter 19 = .ok (.iload_n 1, 1) := by decide +kernel
theorem dX0_hangLetter_20 : decode cX0_hangLetter 20 = .ok (.aload_n 0, 1) := by decide +kernel
theorem dX0_hangLetter_21 : decode cX0_hangLetter 21 = .ok (.getfield 39, 3) := by decide +kernel
theorem dX0_hangLetter_24 : decode cX0_hangLetter 24 = .ok (.iload_n 2, 1) := by decide +kernel
theorem dX0_hangLetter_25 : decode cX0_hangLetter 25 = .ok (.iaload, 1) := by decide +kernel
theorem dX0_hangLetter_26 : decode cX0_hangLetter 26 = .ok (.iastore, 1) := by decide +kernel
theorem dX0_hangLetter_27 : decode cX0_hangLetter 27 = .ok (.aload_n 0, 1) := by decide +kernel
theorem dX0_hangLetter_28 : decode cX0_hangLetter 28 = .ok (.getfield 39, 3) := by decide +kernel
theorem dX0_hangLetter_31 : decode cX0_hangLetter 31 = .ok (.iload_n 2, 1) := by decide +kernel
theorem dX0_hangLetter_32 : decode cX0_hangLetter 32 = .ok (.iload_n 1, 1) := by decide +kernel
theorem dX0_hangLetter_33 : decode cX0_hangLetter 33 = .ok (.iastore, 1) := by decide +kernel
theorem dX0_hangLetter_34 : decode cX0_hangLetter 34 = .ok (.goto 18, 3) := by decide +kernel
theorem dX0_hangLetter_37 : decode cX0_hangLetter 37 = .ok (.aload_n 0, 1) := by decide +kernel
theorem dX0_hangLetter_38 : decode cX0_hangLetter 38 = .ok (.getfield 42, 3) := by decide +kernel
theorem dX0_hangLetter_41 : decode cX0_hangLetter 41 = .ok (.iload_n 1, 1) := by decide +kernel
theorem dX0_hangLetter_42 : decode cX0_hangLetter 42 = .ok (.aload_n 0, 1) := by decide +kernel
theorem dX0_hangLetter_43 : decode cX0_hangLetter 43 = .ok (.getfield 36, 3) := by decide +kernel
theorem dX0_hangLetter_46 : decode cX0_hangLetter 46 = .ok (.iastore, 1) := by decide +kernel
theorem dX0_hangLetter_47 : decode cX0_hangLetter 47 = .ok (.aload_n 0, 1) := by decide +kernel
theorem dX0_hangLetter_48 : decode cX0_hangLetter 48 = .ok (.iload_n 1, 1) := by decide +kernel
theorem dX0_hangLetter_49 : decode cX0_hangLetter 49 = .ok (.putfield 36, 3) := by decide +kernel
theorem dX0_hangLetter_52 : decode cX0_hangLetter 52 = .ok (.return_, 1) := by decide +kernel
set_option maxRecDepth 20000 in
theorem ggX0_addKnown_J13_bitCount_95d88 : GoodIn wsX0_addKnown wsJ13_bitCount_95d88 := goodIn_r _ [6, 7, 8, 9] (by decide +kernel) (by decide +kernel)
set_option maxRecDepth 20000 in
theorem gX0_addKnown_J13_bitCount_95d88 : GoodIn wsX0_addKnown (va_wsS RX0 114 yJ13_bitCount_95d88 wsJ13_bitCount_95d88) := goodIn_app (goodIn_of _ (by decide +kernel)) ggX0_addKnown_J13_bitCount_95d88
theorem dX0_addKnown_0 : decode cX0_addKnown 0 = .ok (.lload_n 2, 1) := by decide +kernel
theorem dX0_addKnown_1 : decode cX0_addKnown 1 = .ok (.aload_n 0, 1) := by decide +kernel
theorem dX0_addKnown_2 : decode cX0_addKnown 2 = .ok (.getfield 33, 3) := by decide +kernel
theorem dX0_addKnown_5 : decode cX0_addKnown 5 = .ok (.iload_n 1, 1) := by decide +kernel
theorem dX0_addKnown_6 : decode cX0_addKnown 6 = .ok (.laload, 1) := by decide +kernel
theorem dX0_addKnown_7 : decode cX0_addKnown 7 = .ok (.ldc2_w 112, 3) := by decide +kernel
theorem dX0_addKnown_10 : decode cX0_addKnown 10 = .ok (.lxor, 1) := by decide +kernel
theorem dX0_addKnown_11 : decode cX0_addKnown 11 = .ok (.land, 1) := by decide +kernel
theorem dX0_addKnown_12 : decode cX0_addKnown 12 = .ok (.invokestatic 114, 3) := by decide +kernel
theorem dX0_addKnown_15 : decode cX0_addKnown 15 = .ok (.istore 4, 2) := by decide +kernel
theorem dX0_addKnown_17 : decode cX0_addKnown 17 = .ok (.aload_n 0, 1) := by decide +kernel
theorem dX0_addKnown_18 : decode cX0_addKnown 18 = .ok (.getfield 33, 3) := by decide +kernel
theorem dX0_addKnown_21 : decode cX0_addKnown 21 = .ok (.iload_n 1, 1) := by decide +kernel
theorem dX0_addKnown_22 : decode cX0_addKnown 22 = .ok (.dup2, 1) := by decide +kernel
theorem dX0_addKnown_23 : decode cX0_addKnown 23 = .ok (.laload, 1) := by decide +kernel
theorem dX0_addKnown_24 : decode cX0_addKnown 24 = .ok (.lload_n 2, 1) := by decide +kernel
theorem dX0_addKnown_25 : decode cX0_addKnown 25 = .ok (.lor, 1) := by decide +kernel
theorem dX0_addKnown_26 : decode cX0_addKnown 26 = .ok (.lastore, 1) := by decide +kernel
theorem dX0_addKnown_27 : decode cX0_addKnown 27 = .ok (.iload 4, 2) := by decide +kernel
theorem dX0_addKnown_29 : decode cX0_addKnown 29 = .ok (.ireturn, 1) := by decide +kernel
theorem dX0_isInsert_0 : decode cX0_isInsert 0 = .ok (.aload_n 0, 1) := by decide +kernel
theorem dX0_isInsert_1 : decode cX0_isInsert 1 = .ok (.getfield 17, 3) := by decide +kernel
theorem dX0_isInsert_4 : decode cX0_isInsert 4 = .ok (.iload_n 1, 1) := by decide +kernel
theorem dX0_isInsert_5 : decode cX0_isInsert 5 = .ok (.iaload, 1) := by decide +kernel
theorem dX0_isInsert_6 : decode cX0_isInsert 6 = .ok (.iconst (-1), 1) := by decide +kernel
theorem dX0_isInsert_7 : decode cX0_isInsert 7 = .ok (.if_icmp .eq 7, 3) := by decide +kernel
theorem dX0_isInsert_10 : decode cX0_isInsert 10 = .ok (.iconst 1, 1) := by decide +kernel
theorem dX0_isInsert_11 : decode cX0_isInsert 11 = .ok (.goto 4, 3) := by decide +kernel
theorem dX0_isInsert_14 : decode cX0_isInsert 14 = .ok (.iconst 0, 1) := by decide +kernel
theorem dX0_isInsert_15 : decode cX0_isInsert 15 = .ok (.ireturn, 1) := by decide +kernel
set_option maxRecDepth 20000 in
theorem ggX0_eventInText_X0_findText : GoodIn wsX0_eventInText wsX0_findText := goodIn_r _ [6, 7, 8, 9, 10, 11, 12, 13, 5, 14, 15, 16, 17, 18, 19, 20, 21, 22, 23, 24, 25, 26, 27, 28, 29, 30, 31, 32, 33, 34, 35, 36, 37, 38, 39, 40, 1, 47, 48, 49, 50, 51, 52, 53, 54, 55, 56, 57, 58, 59, 60] (by decide +kernel) (by decide +kernel)
set_option maxRecDepth 20000 in
theorem gX0_eventInText_X0_findText : GoodIn wsX0_eventInText (wsV RX0 58 RX0 yX0_findText wsX0_findText) := goodIn_app (goodIn_of _ (by decide +kernel)) ggX0_eventInText_X0_findText
set_option maxRecDepth 20000 in
theorem ggX0_eventInText_X0_checkPlace : GoodIn wsX0_eventInText wsX0_checkPlace := goodIn_ca (goodIn_r _ [44, 45, 46] (by decide +kernel) (by decide +kernel)) (goodIn_sub (fun _ h => List.mem_cons_of_mem _ (List.mem_append_right _ h)) (by decide +kernel))
set_option maxRecDepth 20000 in
theorem gX0_eventInText_X0_checkPlace : GoodIn wsX0_eventInText (wsV RX0 62 RX0 yX0_checkPlace wsX0_checkPlace) := goodIn_app (goodIn_of _ (by decide +kernel)) ggX0_eventInText_X0_checkPlace
theorem dX0_eventInText_0 : decode cX0_eventInText 0 = .ok (.aload_n 0, 1) := by decide +kernel
theorem dX0_eventInText_1 : decode cX0_eventInText 1 = .ok (.lload_n 1, 1) := by decide +kernel
theorem dX0_eventInText_2 : decode cX0_eventInText 2 = .ok (.invokevirtual 58, 3) := by decide +kernel
theorem dX0_eventInText_5 : decode cX0_eventInText 5 = .ok (.istore 4, 2) := by decide +kernel
theorem dX0_eventInText_7 : decode cX0_eventInText 7 = .ok (.aload_n 0, 1) := by decide +kernel
theorem dX0_eventInText_8 : decode cX0_eventInText 8 = .ok (.iload_n 3, 1) := by decide +kernel
theorem dX0_eventInText_9 : decode cX0_eventInText 9 = .ok (.iload 4, 2) := by decide +kernel
theorem dX0_eventInText_11 : decode cX0_eventInText 11 = .ok (.invokevirtual 62, 3) := by decide +kernel
theorem dX0_eventInText_14 : decode cX0_eventInText 14 = .ok (.aload_n 0, 1) := by decide +kernel
theorem dX0_eventInText_15 : decode cX0_eventInText 15 = .ok (.getfield 45, 3) := by decide +kernel
theorem dX0_eventInText_18 : decode cX0_eventInText 18 = .ok (.iload_n 3, 1) := by decide +kernel
theorem dX0_eventInText_19 : decode cX0_eventInText 19 = .ok (.iaload, 1) := by decide +kernel
theorem dX0_eventInText_20 : decode cX0_eventInText 20 = .ok (.ireturn, 1) := by decide +kernel
set_option maxRecDepth 20000 in
theorem ggX0_standingIn_X0_has : GoodIn wsX0_standingIn wsX0_has := goodIn_r _ [7, 8, 9, 6, 10] (by decide +kernel) (by decide +kernel)
set_option maxRecDepth 20000 in
theorem gX0_standingIn_X0_has : GoodIn wsX0_standingIn (va_wsS RX0 101 yX0_has wsX0_has) := goodIn_app (goodIn_of _ (by decide +kernel)) ggX0_standingIn_X0_has
set_option maxRecDepth 20000 in
theorem ggX0_standingIn_X0_isInsert : GoodIn wsX0_standingIn wsX0_isInsert := goodIn_r _ [14, 15, 16, 17, 18, 19, 20, 21, 22, 23, 24, 25, 26, 27, 28, 29] (by decide +kernel) (by decide +kernel)
set_option maxRecDepth 20000 in
theorem gX0_standingIn_X0_isInsert : GoodIn wsX0_standingIn (wsV RX0 146 RX0 yX0_isInsert wsX0_isInsert) := goodIn_app (goodIn_of _ (by decide +kernel)) ggX0_standingIn_X0_isInsert
set_option maxRecDepth 20000 in
theorem ggX0_standingIn_X0_only : GoodIn wsX0_standingIn wsX0_only := goodIn_r _ [10] (by decide +kernel) (by decide +kernel)
set_option maxRecDepth 20000 in
theorem gX0_standingIn_X0_only : GoodIn wsX0_standingIn (va_wsS RX0 143 yX0_only wsX0_only) := goodIn_app (goodIn_of _ (by decide +kernel)) ggX0_standingIn_X0_only
theorem dX0_standingIn_0 : decode cX0_standingIn 0 = .ok (.lconst 0, 1) := by decide +kernel
theorem dX0_standingIn_1 : decode cX0_standingIn 1 = .ok (.lstore_n 3, 1) := by decide +kernel
theorem dX0_standingIn_2 : decode cX0_standingIn 2 = .ok (.lconst 0, 1) := by decide +kernel
theorem dX0_standingIn_3 : decode cX0_standingIn 3 = .ok (.lstore 5, 2) := by decide +kernel
theorem dX0_standingIn_5 : decode cX0_standingIn 5 = .ok (.iconst 0, 1) := by decide +kernel
theorem dX0_standingIn_6 : decode cX0_standingIn 6 = .ok (.istore 7, 2) := by decide +kernel
theorem dX0_standingIn_8 : decode cX0_standingIn 8 = .ok (.iload 7, 2) := by decide +kernel
theorem dX0_standingIn_10 : decode cX0_standingIn 10 = .ok (.aload_n 0, 1) := by decide +kernel
theorem dX0_standingIn_11 : decode cX0_standingIn 11 = .ok (.getfield 7, 3) := by decide +kernel
theorem dX0_standingIn_14 : decode cX0_standingIn 14 = .ok (.if_icmp .ge 53, 3) := by decide +kernel
theorem dX0_standingIn_17 : decode cX0_standingIn 17 = .ok (.lload_n 1, 1) := by decide +kernel
theorem dX0_standingIn_18 : decode cX0_standingIn 18 = .ok (.iload 7, 2) := by decide +kernel
theorem dX0_standingIn_20 : decode cX0_standingIn 20 = .ok (.invokestatic 101, 3) := by decide +kernel
theorem dX0_standingIn_23 : decode cX0_standingIn 23 = .ok (.ifCond .eq 38, 3) := by decide +kernel
theorem dX0_standingIn_26 : decode cX0_standingIn 26 = .ok (.aload_n 0, 1) := by decide +kernel
theorem dX0_standingIn_27 : decode cX0_standingIn 27 = .ok (.iload 7, 2) := by decide +kernel
theorem dX0_standingIn_29 : decode cX0_standingIn 29 = .ok (.invokevirtual 146, 3) := by decide +kernel
theorem dX0_standingIn_32 : decode cX0_standingIn 32 = .ok (.ifCond .eq 14, 3) := by decide +kernel
theorem dX0_standingIn_35 : decode cX0_standingIn 35 = .ok (.lload_n 3, 1) := by decide +kernel
theorem dX0_standingIn_36 : decode cX0_standingIn 36 = .ok (.iload 7, 2) := by decide +kernel
theorem dX0_standingIn_38 : decode cX0_standingIn 38 = .ok (.invokestatic 143, 3) := by decide +kernel
theorem dX0_standingIn_41 : decode cX0_standingIn 41 = .ok (.lor, 1) := by decide +kernel
theorem dX0_standingIn_42 : decode cX0_standingIn 42 = .ok (.lstore_n 3, 1) := by decide +kernel
theorem dX0_standingIn_43 : decode cX0_standingIn 43 = .ok (.goto 18, 3) := by decide +kernel
theorem dX0_standingIn_46 : decode cX0_standingIn 46 = .ok (.lload 5, 2) := by decide +kernel
theorem dX0_standingIn_48 : decode cX0_standingIn 48 = .ok (.aload_n 0, 1) := by decide +kernel
theorem dX0_standingIn_49 : decode cX0_standingIn 49 = .ok (.getfield 20, 3) := by decide +kernel
theorem dX0_standingIn_52 : decode cX0_standingIn 52 = .ok (.iload 7, 2) := by decide +kernel
theorem dX0_standingIn_54 : decode cX0_standingIn 54 = .ok (.iaload, 1) := by decide +kernel
theorem dX0_standingIn_55 : decode cX0_standingIn 55 = .ok (.invokestatic 143, 3) := by decide +kernel
theorem dX0_standingIn_58 : decode cX0_standingIn 58 = .ok (.lor, 1) := by decide +kernel
theorem dX0_standingIn_59 : decode cX0_standingIn 59 = .ok (.lstore 5, 2) := by decide +kernel
theorem dX0_standingIn_61 : decode cX0_standingIn 61 = .ok (.iinc 7 1, 3) := by decide +kernel
theorem dX0_standingIn_64 : decode cX0_standingIn 64 = .ok (.goto (-56), 3) := by decide +kernel
theorem dX0_standingIn_67 : decode cX0_standingIn 67 = .ok (.lload_n 3, 1) := by decide +kernel
theorem dX0_standingIn_68 : decode cX0_standingIn 68 = .ok (.lload 5, 2) := by decide +kernel
theorem dX0_standingIn_70 : decode cX0_standingIn 70 = .ok (.ldc2_w 112, 3) := by decide +kernel
theorem dX0_standingIn_73 : decode cX0_standingIn 73 = .ok (.lxor, 1) := by decide +kernel
theorem dX0_standingIn_74 : decode cX0_standingIn 74 = .ok (.land, 1) := by decide +kernel
theorem dX0_standingIn_75 : decode cX0_standingIn 75 = .ok (.lreturn, 1) := by decide +kernel
set_option maxRecDepth 20000 in
theorem ggX0_findText_X0_standingIn : GoodIn wsX0_findText wsX0_standingIn := goodIn_r _ [9, 10, 11, 12, 13, 14, 8, 15, 16, 17, 18, 19, 20, 21, 22, 23, 37, 38, 39, 40, 41, 42, 43, 44, 45, 46, 47, 48, 49, 50] (by decide +kernel) (by decide +kernel)
set_option maxRecDepth 20000 in
theorem gX0_findText_X0_standingIn : GoodIn wsX0_findText (wsV RX0 153 RX0 yX0_standingIn wsX0_standingIn) := goodIn_app (goodIn_of _ (by decide +kernel)) ggX0_findText_X0_standingIn
set_option maxRecDepth 20000 in
theorem ggX0_findText_X0_putWaiting : GoodIn wsX0_findText wsX0_putWaiting := goodIn_r _ [27, 2, 28, 29, 30, 8, 31, 10, 37, 38, 39, 40, 41, 42, 43, 44, 45, 46, 47, 48, 49, 50] (by decide +kernel) (by decide +kernel)
set_option maxRecDepth 20000 in
theorem gX0_findText_X0_putWaiting : GoodIn wsX0_findText (wsV RX0 156 RX0 yX0_putWaiting wsX0_putWaiting) := goodIn_app (goodIn_of _ (by decide +kernel)) ggX0_findText_X0_putWaiting
set_option maxRecDepth 20000 in
theorem ggX0_findText_X0_putText : GoodIn wsX0_findText wsX0_putText := goodIn_r _ [35, 36, 13, 14, 8, 15, 16, 17, 18, 37, 38, 39, 40, 41, 42, 43, 44, 45, 46, 47, 48, 49, 50] (by decide +kernel) (by decide +kernel)
set_option maxRecDepth 20000 in
theorem gX0_findText_X0_putText : GoodIn wsX0_findText (wsV RX0 160 RX0 yX0_putText wsX0_putText) := goodIn_app (goodIn_of _ (by decide +kernel)) ggX0_findText_X0_putText
theorem dX0_findText_0 : decode cX0_findText 0 = .ok (.aload_n 0, 1) := by decide +kernel
theorem dX0_findText_1 : decode cX0_findText 1 = .ok (.lload_n 1, 1) := by decide +kernel
theorem dX0_findText_2 : decode cX0_findText 2 = .ok (.invokevirtual 153, 3) := by decide +kernel
theorem dX0_findText_5 : decode cX0_findText 5 = .ok (.lstore_n 3, 1) := by decide +kernel
theorem dX0_findText_6 : decode cX0_findText 6 = .ok (.iconst 0, 1) := by decide +kernel
theorem dX0_findText_7 : decode cX0_findText 7 = .ok (.istore 5, 2) := by decide +kernel
theorem dX0_findText_9 : decode cX0_findText 9 = .ok (.aload_n 0, 1) := by decide +kernel
theorem dX0_findText_10 : decode cX0_findText 10 = .ok (.aload_n 0, 1) := by decide +kernel
theorem dX0_findText_11 : decode cX0_findText 11 = .ok (.getfield 36, 3) := by decide +kernel
theorem dX0_findText_14 : decode cX0_findText 14 = .ok (.iconst 0, 1) := by decide +kernel
theorem dX0_findText_15 : decode cX0_findText 15 = .ok (.invokevirtual 156, 3) := by decide +kernel
theorem dX0_findText_18 : decode cX0_findText 18 = .ok (.istore 6, 2) := by decide +kernel
theorem dX0_findText_20 : decode cX0_findText 20 = .ok (.iconst 0, 1) := by decide +kernel
theorem dX0_findText_21 : decode cX0_findText 21 = .ok (.istore 7, 2) := by decide +kernel
theorem dX0_findText_23 : decode cX0_findText 23 = .ok (.iload 7, 2) := by decide +kernel
theorem dX0_findText_25 : decode cX0_findText 25 = .ok (.bipush 60, 2) := by decide +kernel
theorem dX0_findText_27 : decode cX0_findText 27 = .ok (.if_icmp .ge 67, 3) := by decide +kernel
theorem dX0_findText_30 : decode cX0_findText 30 = .ok (.iload 6, 2) := by decide +kernel
theorem dX0_findText_32 : decode cX0_findText 32 = .ok (.ifCond .le 62, 3) := by decide +kernel
theorem dX0_findText_35 : decode cX0_findText 35 = .ok (.iinc 6 (-1), 3) := by decide +kernel
theorem dX0_findText_38 : decode cX0_findText 38 = .ok (.aload_n 0, 1) := by decide +kernel
theorem dX0_findText_39 : decode cX0_findText 39 = .ok (.getfield 48, 3) := by decide +kernel
theorem dX0_findText_42 : decode cX0_findText 42 = .ok (.iload 6, 2) := by decide +kernel
theorem dX0_findText_44 : decode cX0_findText 44 = .ok (.iaload, 1) := by decide +kernel
theorem dX0_findText_45 : decode cX0_findText 45 = .ok (.istore 8, 2) := by decide +kernel
theorem dX0_findText_47 : decode cX0_findText 47 = .ok (.aload_n 0, 1) := by decide +kernel
theorem dX0_findText_48 : decode cX0_findText 48 = .ok (.lload_n 3, 1) := by decide +kernel
theorem dX0_findText_49 : decode cX0_findText 49 = .ok (.iload 8, 2) := by decide +kernel
theorem dX0_findText_51 : decode cX0_findText 51 = .ok (.iload 5, 2) := by decide +kernel
theorem dX0_findText_53 : decode cX0_findText 53 = .ok (.invokevirtual 160, 3) := by decide +kernel
theorem dX0_findText_56 : decode cX0_findText 56 = .ok (.istore 5, 2) := by decide +kernel
theorem dX0_findText_58 : decode cX0_findText 58 = .ok (.aload_n 0, 1) := by decide +kernel
theorem dX0_findText_59 : decode cX0_findText 59 = .ok (.aload_n 0, 1) := by decide +kernel
theorem dX0_findText_60 : decode cX0_findText 60 = .ok (.getfield 42, 3) := by decide +kernel
theorem dX0_findText_63 : decode cX0_findText 63 = .ok (.iload 8, 2) := by decide +kernel
theorem dX0_findText_65 : decode cX0_findText 65 = .ok (.iaload, 1) := by decide +kernel
theorem dX0_findText_66 : decode cX0_findText 66 = .ok (.iload 6, 2) := by decide +kernel
theorem dX0_findText_68 : decode cX0_findText 68 = .ok (.invokevirtual 156, 3) := by decide +kernel
theorem dX0_findText_71 : decode cX0_findText 71 = .ok (.istore 6, 2) := by decide +kernel
theorem dX0_findText_73 : decode cX0_findText 73 = .ok (.aload_n 0, 1) := by decide +kernel
theorem dX0_findText_74 : decode cX0_findText 74 = .ok (.aload_n 0, 1) := by decide +kernel
theorem dX0_findText_75 : decode cX0_findText 75 = .ok (.getfield 39, 3) := by decide +kernel
theorem dX0_findText_78 : decode cX0_findText 78 = .ok (.iload 8, 2) := by decide +kernel
theorem dX0_findText_80 : decode cX0_findText 80 = .ok (.iaload, 1) := by decide +kernel
theorem dX0_findText_81 : decode cX0_findText 81 = .ok (.iload 6, 2) := by decide +kernel
theorem dX0_findText_83 : decode cX0_findText 83 = .ok (.invokevirtual 156, 3) := by decide +kernel
theorem dX0_findText_86 : decode cX0_findText 86 = .ok (.istore 6, 2) := by decide +kernel
theorem dX0_findText_88 : decode cX0_findText 88 = .ok (.iinc 7 1, 3) := by decide +kernel
theorem dX0_findText_91 : decode cX0_findText 91 = .ok (.goto (-68), 3) := by decide +kernel
theorem dX0_findText_94 : decode cX0_findText 94 = .ok (.iload 5, 2) := by decide +kernel
theorem dX0_findText_96 : decode cX0_findText 96 = .ok (.ireturn, 1) := by decide +kernel
set_option maxRecDepth 20000 in
theorem ggX0_putWaiting_X0_isEvent : GoodIn wsX0_putWaiting wsX0_isEvent := goodIn_r _ [6, 7, 8, 9, 10, 11, 12, 13, 14, 15, 16, 17, 18, 19, 20, 21] (by decide +kernel) (by decide +kernel)
set_option maxRecDepth 20000 in
theorem gX0_putWaiting_X0_isEvent : GoodIn wsX0_putWaiting (wsV RX0 131 RX0 yX0_isEvent wsX0_isEvent) := goodIn_app (goodIn_of _ (by decide +kernel)) ggX0_putWaiting_X0_isEvent
theorem dX0_putWaiting_0 : decode cX0_putWaiting 0 = .ok (.aload_n 0, 1) := by decide +kernel
theorem dX0_putWaiting_1 : decode cX0_putWaiting 1 = .ok (.iload_n 1, 1) := by decide +kernel
theorem dX0_putWaiting_2 : decode cX0_putWaiting 2 = .ok (.invokevirtual 131, 3) := by decide +kernel
theorem dX0_putWaiting_5 : decode cX0_putWaiting 5 = .ok (.ifCond .eq 9, 3) := by decide +kernel
theorem dX0_putWaiting_8 : decode cX0_putWaiting 8 = .ok (.iload_n 2, 1) := by decide +kernel
theorem dX0_putWaiting_9 : decode cX0_putWaiting 9 = .ok (.bipush 60, 2) := by decide +kernel
theorem dX0_putWaiting_11 : decode cX0_putWaiting 11 = .ok (.if_icmp .lt 5, 3) := by decide +kernel
theorem dX0_putWaiting_14 : decode cX0_putWaiting 14 = .ok (.iload_n 2, 1) := by decide +kernel
theorem dX0_putWaiting_15 : decode cX0_putWaiting 15 = .ok (.ireturn, 1) := by decide +kernel
theorem dX0_putWaiting_16 : decode cX0_putWaiting 16 = .ok (.aload_n 0, 1) := by decide +kernel
theorem dX0_putWaiting_17 : decode cX0_putWaiting 17 = .ok (.getfield 48, 3) := by decide +kernel
theorem dX0_putWaiting_20 : decode cX0_putWaiting 20 = .ok (.iload_n 2, 1) := by decide +kernel
theorem dX0_putWaiting_21 : decode cX0_putWaiting 21 = .ok (.iload_n 1, 1) := by decide +kernel
theorem dX0_putWaiting_22 : decode cX0_putWaiting 22 = .ok (.iastore, 1) := by decide +kernel
theorem dX0_putWaiting_23 : decode cX0_putWaiting 23 = .ok (.iload_n 2, 1) := by decide +kernel
theorem dX0_putWaiting_24 : decode cX0_putWaiting 24 = .ok (.iconst 1, 1) := by decide +kernel
theorem dX0_putWaiting_25 : decode cX0_putWaiting 25 = .ok (.iadd, 1) := by decide +kernel
theorem dX0_putWaiting_26 : decode cX0_putWaiting 26 = .ok (.ireturn, 1) := by decide +kernel
set_option maxRecDepth 20000 in
theorem ggX0_putText_X0_has : GoodIn wsX0_putText wsX0_has := goodIn_r _ [5, 6, 7, 4, 8] (by decide +kernel) (by decide +kernel)
set_option maxRecDepth 20000 in
theorem gX0_putText_X0_has : GoodIn wsX0_putText (va_wsS RX0 101 yX0_has wsX0_has) := goodIn_app (goodIn_of _ (by decide +kernel)) ggX0_putText_X0_has
theorem dX0_putText_0 : decode cX0_putText 0 = .ok (.lload_n 1, 1) := by decide +kernel
theorem dX0_putText_1 : decode cX0_putText 1 = .ok (.iload_n 3, 1) := by decide +kernel
theorem dX0_putText_2 : decode cX0_putText 2 = .ok (.invokestatic 101, 3) := by decide +kernel
theorem dX0_putText_5 : decode cX0_putText 5 = .ok (.ifCond .eq 10, 3) := by decide +kernel
theorem dX0_putText_8 : decode cX0_putText 8 = .ok (.iload 4, 2) := by decide +kernel
theorem dX0_putText_10 : decode cX0_putText 10 = .ok (.bipush 60, 2) := by decide +kernel
theorem dX0_putText_12 : decode cX0_putText 12 = .ok (.if_icmp .lt 6, 3) := by decide +kernel
theorem dX0_putText_15 : decode cX0_putText 15 = .ok (.iload 4, 2) := by decide +kernel
theorem dX0_putText_17 : decode cX0_putText 17 = .ok (.ireturn, 1) := by decide +kernel
theorem dX0_putText_18 : decode cX0_putText 18 = .ok (.aload_n 0, 1) := by decide +kernel
theorem dX0_putText_19 : decode cX0_putText 19 = .ok (.getfield 45, 3) := by decide +kernel
theorem dX0_putText_22 : decode cX0_putText 22 = .ok (.iload 4, 2) := by decide +kernel
theorem dX0_putText_24 : decode cX0_putText 24 = .ok (.iload_n 3, 1) := by decide +kernel
theorem dX0_putText_25 : decode cX0_putText 25 = .ok (.iastore, 1) := by decide +kernel
theorem dX0_putText_26 : decode cX0_putText 26 = .ok (.iload 4, 2) := by decide +kernel
theorem dX0_putText_28 : decode cX0_putText 28 = .ok (.iconst 1, 1) := by decide +kernel
theorem dX0_putText_29 : decode cX0_putText 29 = .ok (.iadd, 1) := by decide +kernel
theorem dX0_putText_30 : decode cX0_putText 30 = .ok (.ireturn, 1) := by decide +kernel
set_option maxRecDepth 20000 in
theorem ggX0_findTextByList_X0_standingIn : GoodIn wsX0_findTextByList wsX0_standingIn := goodIn_r _ [6, 7, 8, 9, 10, 11, 5, 12, 13, 14, 15, 16, 17, 18, 19, 20, 34, 35, 36, 37, 38, 39, 40, 41, 42, 43, 44, 45, 46, 47] (by decide +kernel) (by decide +kernel)
set_option maxRecDepth 20000 in
theorem gX0_findTextByList_X0_standingIn : GoodIn wsX0_findTextByList (wsV RX0 153 RX0 yX0_standingIn wsX0_standingIn) := goodIn_app (goodIn_of _ (by decide +kernel)) ggX0_findTextByList_X0_standingIn
set_option maxRecDepth 20000 in
theorem ggX0_findTextByList_X0_layList : GoodIn wsX0_findTextByList wsX0_layList := goodIn_r _ [24, 7, 8, 1, 10, 11, 5, 12, 13, 14, 15, 16, 17, 18, 19, 20, 25, 26, 27, 28, 34, 35, 36, 37, 38, 39, 40, 41, 42, 43, 44, 45, 46, 47] (by decide +kernel) (by decide +kernel)
set_option maxRecDepth 20000 in
theorem gX0_findTextByList_X0_layList : GoodIn wsX0_findTextByList (wsV RX0 164 RX0 yX0_layList wsX0_layList) := goodIn_app (goodIn_of _ (by decide +kernel)) ggX0_findTextByList_X0_layList
set_option maxRecDepth 20000 in
theorem ggX0_findTextByList_X0_isEvent : GoodIn wsX0_findTextByList wsX0_isEvent := goodIn_r _ [28, 7, 34, 35, 36, 37, 38, 39, 40, 41, 42, 43, 44, 45, 46, 47] (by decide +kernel) (by decide +kernel)
set_option maxRecDepth 20000 in
theorem gX0_findTextByList_X0_isEvent : GoodIn wsX0_findTextByList (wsV RX0 131 RX0 yX0_isEvent wsX0_isEvent) := goodIn_app (goodIn_of _ (by decide +kernel)) ggX0_findTextByList_X0_isEvent
set_option maxRecDepth 20000 in
theorem ggX0_findTextByList_X0_putText : GoodIn wsX0_findTextByList wsX0_putText := goodIn_r _ [32, 33, 10, 11, 5, 12, 13, 14, 15, 34, 35, 36, 37, 38, 39, 40, 41, 42, 43, 44, 45, 46, 47] (by decide +kernel) (by decide +kernel)
set_option maxRecDepth 20000 in
theorem gX0_findTextByList_X0_putText : GoodIn wsX0_findTextByList (wsV RX0 160 RX0 yX0_putText wsX0_putText) := goodIn_app (goodIn_of _ (by decide +kernel)) ggX0_findTextByList_X0_putText
theorem dX0_findTextByList_0 : decode cX0_findTextByList 0 = .ok (.aload_n 0, 1) := by decide +kernel
theorem dX0_findTextByList_1 : decode cX0_findTextByList 1 = .ok (.lload_n 1, 1) := by decide +kernel
theorem dX0_findTextByList_2 : decode cX0_findTextByList 2 = .ok (.invokevirtual 153, 3) := by decide +kernel
theorem dX0_findTextByList_5 : decode cX0_findTextByList 5 = .ok (.lstore_n 3, 1) := by decide +kernel
theorem dX0_findTextByList_6 : decode cX0_findTextByList 6 = .ok (.iconst 0, 1) := by decide +kernel
theorem dX0_findTextByList_7 : decode cX0_findTextByList 7 = .ok (.istore 5, 2) := by decide +kernel
theorem dX0_findTextByList_9 : decode cX0_findTextByList 9 = .ok (.aload_n 0, 1) := by decide +kernel
theorem dX0_findTextByList_10 : decode cX0_findTextByList 10 = .ok (.lload_n 1, 1) := by decide +kernel
theorem dX0_findTextByList_11 : decode cX0_findTextByList 11 = .ok (.invokevirtual 164, 3) := by decide +kernel
theorem dX0_findTextByList_14 : decode cX0_findTextByList 14 = .ok (.istore 6, 2) := by decide +kernel
theorem dX0_findTextByList_16 : decode cX0_findTextByList 16 = .ok (.iconst 0, 1) := by decide +kernel
theorem dX0_findTextByList_17 : decode cX0_findTextByList 17 = .ok (.istore 7, 2) := by decide +kernel
theorem dX0_findTextByList_19 : decode cX0_findTextByList 19 = .ok (.iload 7, 2) := by decide +kernel
theorem dX0_findTextByList_21 : decode cX0_findTextByList 21 = .ok (.bipush 60, 2) := by decide +kernel
theorem dX0_findTextByList_23 : decode cX0_findTextByList 23 = .ok (.if_icmp .ge 38, 3) := by decide +kernel
theorem dX0_findTextByList_26 : decode cX0_findTextByList 26 = .ok (.aload_n 0, 1) := by decide +kernel
theorem dX0_findTextByList_27 : decode cX0_findTextByList 27 = .ok (.iload 6, 2) := by decide +kernel
theorem dX0_findTextByList_29 : decode cX0_findTextByList 29 = .ok (.invokevirtual 131, 3) := by decide +kernel
theorem dX0_findTextByList_32 : decode cX0_findTextByList 32 = .ok (.ifCond .eq 29, 3) := by decide +kernel
theorem dX0_findTextByList_35 : decode cX0_findTextByList 35 = .ok (.aload_n 0, 1) := by decide +kernel
theorem dX0_findTextByList_36 : decode cX0_findTextByList 36 = .ok (.lload_n 3, 1) := by decide +kernel
theorem dX0_findTextByList_37 : decode cX0_findTextByList 37 = .ok (.iload 6, 2) := by decide +kernel
theorem dX0_findTextByList_39 : decode cX0_findTextByList 39 = .ok (.iload 5, 2) := by decide +kernel
theorem dX0_findTextByList_41 : decode cX0_findTextByList 41 = .ok (.invokevirtual 160, 3) := by decide +kernel
theorem dX0_findTextByList_44 : decode cX0_findTextByList 44 = .ok (.istore 5, 2) := by decide +kernel
theorem dX0_findTextByList_46 : decode cX0_findTextByList 46 = .ok (.aload_n 0, 1) := by decide +kernel
theorem dX0_findTextByList_47 : decode cX0_findTextByList 47 = .ok (.getfield 51, 3) := by decide +kernel
theorem dX0_findTextByList_50 : decode cX0_findTextByList 50 = .ok (.iload 6, 2) := by decide +kernel
theorem dX0_findTextByList_52 : decode cX0_findTextByList 52 = .ok (.iaload, 1) := by decide +kernel
theorem dX0_findTextByList_53 : decode cX0_findTextByList 53 = .ok (.istore 6, 2) := by decide +kernel
theorem dX0_findTextByList_55 : decode cX0_findTextByList 55 = .ok (.iinc 7 1, 3) := by decide +kernel
theorem dX0_findTextByList_58 : decode cX0_findTextByList 58 = .ok (.goto (-39), 3) := by decide +kernel
theorem dX0_findTextByList_61 : decode cX0_findTextByList 61 = .ok (.iload 5, 2) := by decide +kernel
theorem dX0_findTextByList_63 : decode cX0_findTextByList 63 = .ok (.ireturn, 1) := by decide +kernel
set_option maxRecDepth 20000 in
theorem ggX0_layList_X0_has : GoodIn wsX0_layList wsX0_has := goodIn_r _ [7, 8, 9, 6, 10] (by decide +kernel) (by decide +kernel)
set_option maxRecDepth 20000 in
theorem gX0_layList_X0_has : GoodIn wsX0_layList (va_wsS RX0 101 yX0_has wsX0_has) := goodIn_app (goodIn_of _ (by decide +kernel)) ggX0_layList_X0_has
set_option maxRecDepth 20000 in
theorem ggX0_layList_X0_isInsert : GoodIn wsX0_layList wsX0_isInsert := goodIn_r _ [14, 15, 20, 21, 22, 23, 24, 25, 26, 27, 28, 29, 30, 31, 32, 33] (by decide +kernel) (by decide +kernel)
set_option maxRecDepth 20000 in
theorem gX0_layList_X0_isInsert : GoodIn wsX0_layList (wsV RX0 146 RX0 yX0_isInsert wsX0_isInsert) := goodIn_app (goodIn_of _ (by decide +kernel)) ggX0_layList_X0_isInsert
set_option maxRecDepth 20000 in
theorem ggX0_layList_X0_isEvent : GoodIn wsX0_layList wsX0_isEvent := goodIn_r _ [19, 1, 20, 21, 22, 23, 24, 25, 26, 27, 28, 29, 30, 31, 32, 33] (by decide +kernel) (by decide +kernel)
set_option maxRecDepth 20000 in
theorem gX0_layList_X0_isEvent : GoodIn wsX0_layList (wsV RX0 131 RX0 yX0_isEvent wsX0_isEvent) := goodIn_app (goodIn_of _ (by decide +kernel)) ggX0_layList_X0_isEvent
theorem dX0_layList_0 : decode cX0_layList 0 = .ok (.iconst (-1), 1) := by decide +kernel
theorem dX0_layList_1 : decode cX0_layList 1 = .ok (.istore_n 3, 1) := by decide +kernel
theorem dX0_layList_2 : decode cX0_layList 2 = .ok (.iconst 0, 1) := by decide +kernel
theorem dX0_layList_3 : decode cX0_layList 3 = .ok (.istore 4, 2) := by decide +kernel
theorem dX0_layList_5 : decode cX0_layList 5 = .ok (.iload 4, 2) := by decide +kernel
theorem dX0_layList_7 : decode cX0_layList 7 = .ok (.aload_n 0, 1) := by decide +kernel
theorem dX0_layList_8 : decode cX0_layList 8 = .ok (.getfield 7, 3) := by decide +kernel
theorem dX0_layList_11 : decode cX0_layList 11 = .ok (.if_icmp .ge 82, 3) := by decide +kernel
theorem dX0_layList_14 : decode cX0_layList 14 = .ok (.lload_n 1, 1) := by decide +kernel
theorem dX0_layList_15 : decode cX0_layList 15 = .ok (.iload 4, 2) := by decide +kernel
theorem dX0_layList_17 : decode cX0_layList 17 = .ok (.invokestatic 101, 3) := by decide +kernel
theorem dX0_layList_20 : decode cX0_layList 20 = .ok (.ifCond .eq 67, 3) := by decide +kernel
theorem dX0_layList_23 : decode cX0_layList 23 = .ok (.aload_n 0, 1) := by decide +kernel
theorem dX0_layList_24 : decode cX0_layList 24 = .ok (.iload 4, 2) := by decide +kernel
theorem dX0_layList_26 : decode cX0_layList 26 = .ok (.invokevirtual 146, 3) := by decide +kernel
theorem dX0_layList_29 : decode cX0_layList 29 = .ok (.ifCond .eq 58, 3) := by decide +kernel
theorem dX0_layList_32 : decode cX0_layList 32 = .ok (.aload_n 0, 1) := by decide +kernel
theorem dX0_layList_33 : decode cX0_layList 33 = .ok (.getfield 20, 3) := by decide +kernel
theorem dX0_layList_36 : decode cX0_layList 36 = .ok (.iload 4, 2) := by decide +kernel
theorem dX0_layList_38 : decode cX0_layList 38 = .ok (.iaload, 1) := by decide +kernel
theorem dX0_layList_39 : decode cX0_layList 39 = .ok (.istore 5, 2) := by decide +kernel
theorem dX0_layList_41 : decode cX0_layList 41 = .ok (.aload_n 0, 1) := by decide +kernel
theorem dX0_layList_42 : decode cX0_layList 42 = .ok (.iload 5, 2) := by decide +kernel
theorem dX0_layList_44 : decode cX0_layList 44 = .ok (.invokevirtual 131, 3) := by decide +kernel
theorem dX0_layList_47 : decode cX0_layList 47 = .ok (.ifCond .eq 29, 3) := by decide +kernel
theorem dX0_layList_50 : decode cX0_layList 50 = .ok (.aload_n 0, 1) := by decide +kernel
theorem dX0_layList_51 : decode cX0_layList 51 = .ok (.getfield 51, 3) := by decide +kernel
theorem dX0_layList_54 : decode cX0_layList 54 = .ok (.iload 4, 2) := by decide +kernel
theorem dX0_layList_56 : decode cX0_layList 56 = .ok (.aload_n 0, 1) := by decide +kernel
theorem dX0_layList_57 : decode cX0_layList 57 = .ok (.getfield 51, 3) := by decide +kernel
theorem dX0_layList_60 : decode cX0_layList 60 = .ok (.iload 5, 2) := by decide +kernel
theorem dX0_layList_62 : decode cX0_layList 62 = .ok (.iaload, 1) := by decide +kernel
theorem dX0_layList_63 : decode cX0_layList 63 = .ok (.iastore, 1) := by decide +kernel
theorem dX0_layList_64 : decode cX0_layList 64 = .ok (.aload_n 0, 1) := by decide +kernel
theorem dX0_layList_65 : decode cX0_layList 65 = .ok (.getfield 51, 3) := by decide +kernel
theorem dX0_layList_68 : decode cX0_layList 68 = .ok (.iload 5, 2) := by decide +kernel
theorem dX0_layList_70 : decode cX0_layList 70 = .ok (.iload 4, 2) := by decide +kernel
theorem dX0_layList_72 : decode cX0_layList 72 = .ok (.iastore, 1) := by decide +kernel
theorem dX0_layList_73 : decode cX0_layList 73 = .ok (.goto 14, 3) := by decide +kernel
theorem dX0_layList_76 : decode cX0_layList 76 = .ok (.aload_n 0, 1) := by decide +kernel
theorem dX0_layList_77 : decode cX0_layList 77 = .ok (.getfield 51, 3) := by decide +kernel
theorem dX0_layList_80 : decode cX0_layList 80 = .ok (.iload 4, 2) := by decide +kernel
theorem dX0_layList_82 : decode cX0_layList 82 = .ok (.iload_n 3, 1) := by decide +kernel
theorem dX0_layList_83 : decode cX0_layList 83 = .ok (.iastore, 1) := by decide +kernel
theorem dX0_layList_84 : decode cX0_layList 84 = .ok (.iload 4, 2) := by decide +kernel
theorem dX0_layList_86 : decode cX0_layList 86 = .ok (.istore_n 3, 1) := by decide +kernel
theorem dX0_layList_87 : decode cX0_layList 87 = .ok (.iinc 4 1, 3) := by decide +kernel
theorem dX0_layList_90 : decode cX0_layList 90 = .ok (.goto (-85), 3) := by decide +kernel
theorem dX0_layList_93 : decode cX0_layList 93 = .ok (.iload_n 3, 1) := by decide +kernel
theorem dX0_layList_94 : decode cX0_layList 94 = .ok (.ireturn, 1) := by decide +kernel
end
section
theorem dX1_init_0 : decode cX1_init 0 = .ok (.aload_n 0, 1) := by decide +kernel
theorem dX1_init_1 : decode cX1_init 1 = .ok (.invokespecial 1, 3) := by decide +kernel
theorem dX1_init_4 : decode cX1_init 4 = .ok (.aload_n 0, 1) := by decide +kernel
theorem dX1_init_5 : decode cX1_init 5 = .ok (.bipush 60, 2) := by decide +kernel
theorem dX1_init_7 : decode cX1_init 7 = .ok (.newarray .int, 2) := by decide +kernel
theorem dX1_init_9 : decode cX1_init 9 = .ok (.putfield 7, 3) := by decide +kernel
theorem dX1_init_12 : decode cX1_init 12 = .ok (.aload_n 0, 1) := by decide +kernel
theorem dX1_init_13 : decode cX1_init 13 = .ok (.bipush 60, 2) := by decide +kernel
theorem dX1_init_15 : decode cX1_init 15 = .ok (.newarray .int, 2) := by decide +kernel
theorem dX1_init_17 : decode cX1_init 17 = .ok (.putfield 13, 3) := by decide +kernel
theorem dX1_init_20 : decode cX1_init 20 = .ok (.aload_n 0, 1) := by decide +kernel
theorem dX1_init_21 : decode cX1_init 21 = .ok (.bipush 60, 2) := by decide +kernel
theorem dX1_init_23 : decode cX1_init 23 = .ok (.newarray .int, 2) := by decide +kernel
theorem dX1_init_25 : decode cX1_init 25 = .ok (.putfield 16, 3) := by decide +kernel
theorem dX1_init_28 : decode cX1_init 28 = .ok (.aload_n 0, 1) := by decide +kernel
theorem dX1_init_29 : decode cX1_init 29 = .ok (.bipush 60, 2) := by decide +kernel
theorem dX1_init_31 : decode cX1_init 31 = .ok (.newarray .long, 2) := by decide +kernel
theorem dX1_init_33 : decode cX1_init 33 = .ok (.putfield 19, 3) := by decide +kernel
theorem dX1_init_36 : decode cX1_init 36 = .ok (.aload_n 0, 1) := by decide +kernel
theorem dX1_init_37 : decode cX1_init 37 = .ok (.bipush 60, 2) := by decide +kernel
theorem dX1_init_39 : decode cX1_init 39 = .ok (.newarray .long, 2) := by decide +kernel
theorem dX1_init_41 : decode cX1_init 41 = .ok (.putfield 23, 3) := by decide +kernel
theorem dX1_init_44 : decode cX1_init 44 = .ok (.aload_n 0, 1) := by decide +kernel
theorem dX1_init_45 : decode cX1_init 45 = .ok (.iconst 4, 1) := by decide +kernel
theorem dX1_init_46 : decode cX1_init 46 = .ok (.newarray .long, 2) := by decide +kernel
theorem dX1_init_48 : decode cX1_init 48 = .ok (.putfield 26, 3) := by decide +kernel
theorem dX1_init_51 : decode cX1_init 51 = .ok (.aload_n 0, 1) := by decide +kernel
theorem dX1_init_52 : decode cX1_init 52 = .ok (.bipush 60, 2) := by decide +kernel
theorem dX1_init_54 : decode cX1_init 54 = .ok (.newarray .int, 2) := by decide +kernel
theorem dX1_init_56 : decode cX1_init 56 = .ok (.putfield 29, 3) := by decide +kernel
theorem dX1_init_59 : decode cX1_init 59 = .ok (.return_, 1) := by decide +kernel
theorem dX1_thrown_0 : decode cX1_thrown 0 = .ok (.aload_n 0, 1) := by decide +kernel
theorem dX1_thrown_1 : decode cX1_thrown 1 = .ok (.getfield 32, 3) := by decide +kernel
theorem dX1_thrown_4 : decode cX1_thrown 4 = .ok (.ireturn, 1) := by decide +kernel
theorem dX1_in_0 : decode cX1_in 0 = .ok (.iload_n 0, 1) := by decide +kernel
theorem dX1_in_1 : decode cX1_in 1 = .ok (.iload_n 1, 1) := by decide +kernel
theorem dX1_in_2 : decode cX1_in 2 = .ok (.if_icmp .lt 12, 3) := by decide +kernel
theorem dX1_in_5 : decode cX1_in 5 = .ok (.iload_n 0, 1) := by decide +kernel
theorem dX1_in_6 : decode cX1_in 6 = .ok (.iload_n 2, 1) := by decide +kernel
theorem dX1_in_7 : decode cX1_in 7 = .ok (.if_icmp .gt 7, 3) := by decide +kernel
theorem dX1_in_10 : decode cX1_in 10 = .ok (.iconst 1, 1) := by decide +kernel
theorem dX1_in_11 : decode cX1_in 11 = .ok (.goto 4, 3) := by decide +kernel
theorem dX1_in_14 : decode cX1_in 14 = .ok (.iconst 0, 1) := by decide +kernel
theorem dX1_in_15 : decode cX1_in 15 = .ok (.ireturn, 1) := by decide +kernel
theorem dX1_asked_0 : decode cX1_asked 0 = .ok (.aload_n 0, 1) := by decide +kernel
theorem dX1_asked_1 : decode cX1_asked 1 = .ok (.iload_n 1, 1) := by decide +kernel
theorem dX1_asked_2 : decode cX1_asked 2 = .ok (.ifCond .eq 7, 3) := by decide +kernel
theorem dX1_asked_5 : decode cX1_asked 5 = .ok (.iconst 0, 1) := by decide +kernel
theorem dX1_asked_6 : decode cX1_asked 6 = .ok (.goto 4, 3) := by decide +kernel
theorem dX1_asked_9 : decode cX1_asked 9 = .ok (.iconst 1, 1) := by decide +kernel
theorem dX1_asked_10 : decode cX1_asked 10 = .ok (.putfield 32, 3) := by decide +kernel
theorem dX1_asked_13 : decode cX1_asked 13 = .ok (.iload_n 1, 1) := by decide +kernel
theorem dX1_asked_14 : decode cX1_asked 14 = .ok (.ireturn, 1) := by decide +kernel
theorem dX1_asked__0 : decode cX1_asked_ 0 = .ok (.aload_n 0, 1) := by decide +kernel
theorem dX1_asked__1 : decode cX1_asked_ 1 = .ok (.iload_n 1, 1) := by decide +kernel
theorem dX1_asked__2 : decode cX1_asked_ 2 = .ok (.ifCond .ne 7, 3) := by decide +kernel
theorem dX1_asked__5 : decode cX1_asked_ 5 = .ok (.iconst 1, 1) := by decide +kernel
theorem dX1_asked__6 : decode cX1_asked_ 6 = .ok (.goto 12, 3) := by decide +kernel
theorem dX1_asked__9 : decode cX1_asked_ 9 = .ok (.iload_n 2, 1) := by decide +kernel
theorem dX1_asked__10 : decode cX1_asked_ 10 = .ok (.ifCond .eq 7, 3) := by decide +kernel
theorem dX1_asked__13 : decode cX1_asked_ 13 = .ok (.iconst 0, 1) := by decide +kernel
theorem dX1_asked__14 : decode cX1_asked_ 14 = .ok (.goto 4, 3) := by decide +kernel
theorem dX1_asked__17 : decode cX1_asked_ 17 = .ok (.iconst 2, 1) := by decide +kernel
theorem dX1_asked__18 : decode cX1_asked_ 18 = .ok (.putfield 32, 3) := by decide +kernel
theorem dX1_asked__21 : decode cX1_asked_ 21 = .ok (.aload_n 0, 1) := by decide +kernel
theorem dX1_asked__22 : decode cX1_asked_ 22 = .ok (.getfield 32, 3) := by decide +kernel
theorem dX1_asked__25 : decode cX1_asked_ 25 = .ok (.ifCond .ne 7, 3) := by decide +kernel
theorem dX1_asked__28 : decode cX1_asked_ 28 = .ok (.iconst 1, 1) := by decide +kernel
theorem dX1_asked__29 : decode cX1_asked_ 29 = .ok (.goto 4, 3) := by decide +kernel
theorem dX1_asked__32 : decode cX1_asked_ 32 = .ok (.iconst 0, 1) := by decide +kernel
theorem dX1_asked__33 : decode cX1_asked_ 33 = .ok (.ireturn, 1) := by decide +kernel
theorem dX1_asked___0 : decode cX1_asked__ 0 = .ok (.aload_n 0, 1) := by decide +kernel
theorem dX1_asked___1 : decode cX1_asked__ 1 = .ok (.iload_n 1, 1) := by decide +kernel
theorem dX1_asked___2 : decode cX1_asked__ 2 = .ok (.ifCond .ne 7, 3) := by decide +kernel
theorem dX1_asked___5 : decode cX1_asked__ 5 = .ok (.iconst 1, 1) := by decide +kernel
theorem dX1_asked___6 : decode cX1_asked__ 6 = .ok (.goto 20, 3) := by decide +kernel
theorem dX1_asked___9 : decode cX1_asked__ 9 = .ok (.iload_n 2, 1) := by decide +kernel
theorem dX1_asked___10 : decode cX1_asked__ 10 = .ok (.ifCond .ne 7, 3) := by decide +kernel
theorem dX1_asked___13 : decode cX1_asked__ 13 = .ok (.iconst 2, 1) := by decide +kernel
theorem dX1_asked___14 : decode cX1_asked__ 14 = .ok (.goto 12, 3) := by decide +kernel
theorem dX1_asked___17 : decode cX1_asked__ 17 = .ok (.iload_n 3, 1) := by decide +kernel
theorem dX1_asked___18 : decode cX1_asked__ 18 = .ok (.ifCond .eq 7, 3) := by decide +kernel
theorem dX1_asked___21 : decode cX1_asked__ 21 = .ok (.iconst 0, 1) := by decide +kernel
theorem dX1_asked___22 : decode cX1_asked__ 22 = .ok (.goto 4, 3) := by decide +kernel
theorem dX1_asked___25 : decode cX1_asked__ 25 = .ok (.iconst 3, 1) := by decide +kernel
theorem dX1_asked___26 : decode cX1_asked__ 26 = .ok (.putfield 32, 3) := by decide +kernel
theorem dX1_asked___29 : decode cX1_asked__ 29 = .ok (.aload_n 0, 1) := by decide +kernel
theorem dX1_asked___30 : decode cX1_asked__ 30 = .ok (.getfield 32, 3) := by decide +kernel
theorem dX1_asked___33 : decode cX1_asked__ 33 = .ok (.ifCond .ne 7, 3) := by decide +kernel
theorem dX1_asked___36 : decode cX1_asked__ 36 = .ok (.iconst 1, 1) := by decide +kernel
theorem dX1_asked___37 : decode cX1_asked__ 37 = .ok (.goto 4, 3) := by decide +kernel
theorem dX1_asked___40 : decode cX1_asked__ 40 = .ok (.iconst 0, 1) := by decide +kernel
theorem dX1_asked___41 : decode cX1_asked__ 41 = .ok (.ireturn, 1) := by decide +kernel
set_option maxRecDepth 20000 in
theorem ggX1_isAuthor_X1_in : GoodIn wsX1_isAuthor wsX1_in := goodIn_r _ [4] (by decide +kernel) (by decide +kernel)
set_option maxRecDepth 20000 in
theorem gX1_isAuthor_X1_in : GoodIn wsX1_isAuthor (va_wsS RX1 36 yX1_in wsX1_in) := goodIn_app (goodIn_of _ (by decide +kernel)) ggX1_isAuthor_X1_in
theorem dX1_isAuthor_0 : decode cX1_isAuthor 0 = .ok (.iload_n 0, 1) := by decide +kernel
theorem dX1_isAuthor_1 : decode cX1_isAuthor 1 = .ok (.iconst 0, 1) := by decide +kernel
theorem dX1_isAuthor_2 : decode cX1_isAuthor 2 = .ok (.iconst 3, 1) := by decide +kernel
theorem dX1_isAuthor_3 : decode cX1_isAuthor 3 = .ok (.invokestatic 36, 3) := by decide +kernel
theorem dX1_isAuthor_6 : decode cX1_isAuthor 6 = .ok (.ireturn, 1) := by decide +kernel
set_option maxRecDepth 20000 in
theorem ggX1_isEvent_X1_in : GoodIn wsX1_isEvent wsX1_in := goodIn_r _ [5] (by decide +kernel) (by decide +kernel)
set_option maxRecDepth 20000 in
theorem gX1_isEvent_X1_in : GoodIn wsX1_isEvent (va_wsS RX1 36 yX1_in wsX1_in) := goodIn_app (goodIn_of _ (by decide +kernel)) ggX1_isEvent_X1_in
theorem dX1_isEvent_0 : decode cX1_isEvent 0 = .ok (.iload_n 1, 1) := by decide +kernel
theorem dX1_isEvent_1 : decode cX1_isEvent 1 = .ok (.iconst 0, 1) := by decide +kernel
theorem dX1_isEvent_2 : decode cX1_isEvent 2 = .ok (.aload_n 0, 1) := by decide +kernel
theorem dX1_isEvent_3 : decode cX1_isEvent 3 = .ok (.getfield 40, 3) := by decide +kernel
theorem dX1_isEvent_6 : decode cX1_isEvent 6 = .ok (.iconst 1, 1) := by decide +kernel
theorem dX1_isEvent_7 : decode cX1_isEvent 7 = .ok (.isub, 1) := by decide +kernel
theorem dX1_isEvent_8 : decode cX1_isEvent 8 = .ok (.invokestatic 36, 3) := by decide +kernel
theorem dX1_isEvent_11 : decode cX1_isEvent 11 = .ok (.ireturn, 1) := by decide +kernel
theorem dX1_has_0 : decode cX1_has 0 = .ok (.lload_n 0, 1) := by decide +kernel
theorem dX1_has_1 : decode cX1_has 1 = .ok (.iload_n 2, 1) := by decide +kernel
theorem dX1_has_2 : decode cX1_has 2 = .ok (.lushr, 1) := by decide +kernel
theorem dX1_has_3 : decode cX1_has 3 = .ok (.lconst 1, 1) := by decide +kernel
theorem dX1_has_4 : decode cX1_has 4 = .ok (.land, 1) := by decide +kernel
theorem dX1_has_5 : decode cX1_has 5 = .ok (.lconst 1, 1) := by decide +kernel
theorem dX1_has_6 : decode cX1_has 6 = .ok (.lcmp, 1) := by decide +kernel
theorem dX1_has_7 : decode cX1_has 7 = .ok (.ifCond .ne 7, 3) := by decide +kernel
theorem dX1_has_10 : decode cX1_has 10 = .ok (.iconst 1, 1) := by decide +kernel
theorem dX1_has_11 : decode cX1_has 11 = .ok (.goto 4, 3) := by decide +kernel
theorem dX1_has_14 : decode cX1_has 14 = .ok (.iconst 0, 1) := by decide +kernel
theorem dX1_has_15 : decode cX1_has 15 = .ok (.ireturn, 1) := by decide +kernel
set_option maxRecDepth 20000 in
theorem ggX1_count_X1_has : GoodIn wsX1_count wsX1_has := goodIn_r _ [5] (by decide +kernel) (by decide +kernel)
set_option maxRecDepth 20000 in
theorem gX1_count_X1_has : GoodIn wsX1_count (va_wsS RX1 43 yX1_has wsX1_has) := goodIn_app (goodIn_of _ (by decide +kernel)) ggX1_count_X1_has
theorem dX1_count_0 : decode cX1_count 0 = .ok (.iconst 0, 1) := by decide +kernel
theorem dX1_count_1 : decode cX1_count 1 = .ok (.istore_n 3, 1) := by decide +kernel
theorem dX1_count_2 : decode cX1_count 2 = .ok (.iconst 0, 1) := by decide +kernel
theorem dX1_count_3 : decode cX1_count 3 = .ok (.istore 4, 2) := by decide +kernel
theorem dX1_count_5 : decode cX1_count 5 = .ok (.iload 4, 2) := by decide +kernel
theorem dX1_count_7 : decode cX1_count 7 = .ok (.aload_n 0, 1) := by decide +kernel
theorem dX1_count_8 : decode cX1_count 8 = .ok (.getfield 40, 3) := by decide +kernel
theorem dX1_count_11 : decode cX1_count 11 = .ok (.if_icmp .ge 26, 3) := by decide +kernel
theorem dX1_count_14 : decode cX1_count 14 = .ok (.iload_n 3, 1) := by decide +kernel
theorem dX1_count_15 : decode cX1_count 15 = .ok (.lload_n 1, 1) := by decide +kernel
theorem dX1_count_16 : decode cX1_count 16 = .ok (.iload 4, 2) := by decide +kernel
theorem dX1_count_18 : decode cX1_count 18 = .ok (.invokestatic 43, 3) := by decide +kernel
theorem dX1_count_21 : decode cX1_count 21 = .ok (.ifCond .eq 7, 3) := by decide +kernel
theorem dX1_count_24 : decode cX1_count 24 = .ok (.iconst 1, 1) := by decide +kernel
theorem dX1_count_25 : decode cX1_count 25 = .ok (.goto 4, 3) := by decide +kernel
theorem dX1_count_28 : decode cX1_count 28 = .ok (.iconst 0, 1) := by decide +kernel
theorem dX1_count_29 : decode cX1_count 29 = .ok (.iadd, 1) := by decide +kernel
theorem dX1_count_30 : decode cX1_count 30 = .ok (.istore_n 3, 1) := by decide +kernel
theorem dX1_count_31 : decode cX1_count 31 = .ok (.iinc 4 1, 3) := by decide +kernel
theorem dX1_count_34 : decode cX1_count 34 = .ok (.goto (-29), 3) := by decide +kernel
theorem dX1_count_37 : decode cX1_count 37 = .ok (.iload_n 3, 1) := by decide +kernel
theorem dX1_count_38 : decode cX1_count 38 = .ok (.ireturn, 1) := by decide +kernel
theorem dX1_versionOf_0 : decode cX1_versionOf 0 = .ok (.aload_n 0, 1) := by decide +kernel
theorem dX1_versionOf_1 : decode cX1_versionOf 1 = .ok (.getfield 23, 3) := by decide +kernel
theorem dX1_versionOf_4 : decode cX1_versionOf 4 = .ok (.iload_n 1, 1) := by decide +kernel
theorem dX1_versionOf_5 : decode cX1_versionOf 5 = .ok (.laload, 1) := by decide +kernel
theorem dX1_versionOf_6 : decode cX1_versionOf 6 = .ok (.lconst 1, 1) := by decide +kernel
theorem dX1_versionOf_7 : decode cX1_versionOf 7 = .ok (.iload_n 1, 1) := by decide +kernel
theorem dX1_versionOf_8 : decode cX1_versionOf 8 = .ok (.lshl, 1) := by decide +kernel
theorem dX1_versionOf_9 : decode cX1_versionOf 9 = .ok (.lor, 1) := by decide +kernel
theorem dX1_versionOf_10 : decode cX1_versionOf 10 = .ok (.lreturn, 1) := by decide +kernel
set_option maxRecDepth 20000 in
theorem ggX1_headsOf_X1_has : GoodIn wsX1_headsOf wsX1_has := goodIn_r _ [7] (by decide +kernel) (by decide +kernel)
set_option maxRecDepth 20000 in
theorem gX1_headsOf_X1_has : GoodIn wsX1_headsOf (va_wsS RX1 43 yX1_has wsX1_has) := goodIn_app (goodIn_of _ (by decide +kernel)) ggX1_headsOf_X1_has
theorem dX1_headsOf_0 : decode cX1_headsOf 0 = .ok (.lload_n 1, 1) := by decide +kernel
theorem dX1_headsOf_1 : decode cX1_headsOf 1 = .ok (.lstore_n 3, 1) := by decide +kernel
theorem dX1_headsOf_2 : decode cX1_headsOf 2 = .ok (.iconst 0, 1) := by decide +kernel
theorem dX1_headsOf_3 : decode cX1_headsOf 3 = .ok (.istore 5, 2) := by decide +kernel
theorem dX1_headsOf_5 : decode cX1_headsOf 5 = .ok (.iload 5, 2) := by decide +kernel
theorem dX1_headsOf_7 : decode cX1_headsOf 7 = .ok (.aload_n 0, 1) := by decide +kernel
theorem dX1_headsOf_8 : decode cX1_headsOf 8 = .ok (.getfield 40, 3) := by decide +kernel
theorem dX1_headsOf_11 : decode cX1_headsOf 11 = .ok (.if_icmp .ge 38, 3) := by decide +kernel
theorem dX1_headsOf_14 : decode cX1_headsOf 14 = .ok (.lload_n 3, 1) := by decide +kernel
theorem dX1_headsOf_15 : decode cX1_headsOf 15 = .ok (.lload_n 1, 1) := by decide +kernel
theorem dX1_headsOf_16 : decode cX1_headsOf 16 = .ok (.iload 5, 2) := by decide +kernel
theorem dX1_headsOf_18 : decode cX1_headsOf 18 = .ok (.invokestatic 43, 3) := by decide +kernel
theorem dX1_headsOf_21 : decode cX1_headsOf 21 = .ok (.ifCond .eq 17, 3) := by decide +kernel
theorem dX1_headsOf_24 : decode cX1_headsOf 24 = .ok (.aload_n 0, 1) := by decide +kernel
theorem dX1_headsOf_25 : decode cX1_headsOf 25 = .ok (.getfield 19, 3) := by decide +kernel
theorem dX1_headsOf_28 : decode cX1_headsOf 28 = .ok (.iload 5, 2) := by decide +kernel
theorem dX1_headsOf_30 : decode cX1_headsOf 30 = .ok (.laload, 1) := by decide +kernel
theorem dX1_headsOf_31 : decode cX1_headsOf 31 = .ok (.ldc2_w 47, 3) := by decide +kernel
theorem dX1_headsOf_34 : decode cX1_headsOf 34 = .ok (.lxor, 1) := by decide +kernel
theorem dX1_headsOf_35 : decode cX1_headsOf 35 = .ok (.goto 6, 3) := by decide +kernel
theorem dX1_headsOf_38 : decode cX1_headsOf 38 = .ok (.ldc2_w 47, 3) := by decide +kernel
theorem dX1_headsOf_41 : decode cX1_headsOf 41 = .ok (.land, 1) := by decide +kernel
theorem dX1_headsOf_42 : decode cX1_headsOf 42 = .ok (.lstore_n 3, 1) := by decide +kernel
theorem dX1_headsOf_43 : decode cX1_headsOf 43 = .ok (.iinc 5 1, 3) := by decide +kernel
theorem dX1_headsOf_46 : decode cX1_headsOf 46 = .ok (.goto (-41), 3) := by decide +kernel
theorem dX1_headsOf_49 : decode cX1_headsOf 49 = .ok (.lload_n 3, 1) := by decide +kernel
theorem dX1_headsOf_50 : decode cX1_headsOf 50 = .ok (.lreturn, 1) := by decide +kernel
set_option maxRecDepth 20000 in
theorem ggX1_reads_X1_has : GoodIn wsX1_reads wsX1_has := goodIn_r _ [9] (by decide +kernel) (by decide +kernel)
set_option maxRecDepth 20000 in
theorem gX1_reads_X1_has : GoodIn wsX1_reads (va_wsS RX1 43 yX1_has wsX1_has) := goodIn_app (goodIn_of _ (by decide +kernel)) ggX1_reads_X1_has
theorem dX1_reads_0 : decode cX1_reads 0 = .ok (.aload_n 0, 1) := by decide +kernel
theorem dX1_reads_1 : decode cX1_reads 1 = .ok (.iconst 0, 1) := by decide +kernel
theorem dX1_reads_2 : decode cX1_reads 2 = .ok (.putfield 49, 3) := by decide +kernel
theorem dX1_reads_5 : decode cX1_reads 5 = .ok (.iconst 0, 1) := by decide +kernel
theorem dX1_reads_6 : decode cX1_reads 6 = .ok (.istore_n 3, 1) := by decide +kernel
theorem dX1_reads_7 : decode cX1_reads 7 = .ok (.iload_n 3, 1) := by decide +kernel
theorem dX1_reads_8 : decode cX1_reads 8 = .ok (.aload_n 0, 1) := by decide +kernel
theorem dX1_reads_9 : decode cX1_reads 9 = .ok (.getfield 40, 3) := by decide +kernel
theorem dX1_reads_12 : decode cX1_reads 12 = .ok (.if_icmp .ge 135, 3) := by decide +kernel
theorem dX1_reads_15 : decode cX1_reads 15 = .ok (.lload_n 1, 1) := by decide +kernel
theorem dX1_reads_16 : decode cX1_reads 16 = .ok (.iload_n 3, 1) := by decide +kernel
theorem dX1_reads_17 : decode cX1_reads 17 = .ok (.invokestatic 43, 3) := by decide +kernel
theorem dX1_reads_20 : decode cX1_reads 20 = .ok (.ifCond .eq 121, 3) := by decide +kernel
theorem dX1_reads_23 : decode cX1_reads 23 = .ok (.aload_n 0, 1) := by decide +kernel
theorem dX1_reads_24 : decode cX1_reads 24 = .ok (.getfield 13, 3) := by decide +kernel
theorem dX1_reads_27 : decode cX1_reads 27 = .ok (.iload_n 3, 1) := by decide +kernel
theorem dX1_reads_28 : decode cX1_reads 28 = .ok (.iaload, 1) := by decide +kernel
theorem dX1_reads_29 : decode cX1_reads 29 = .ok (.iconst (-1), 1) := by decide +kernel
theorem dX1_reads_30 : decode cX1_reads 30 = .ok (.if_icmp .eq 111, 3) := by decide +kernel
theorem dX1_reads_33 : decode cX1_reads 33 = .ok (.iconst 0, 1) := by decide +kernel
theorem dX1_reads_34 : decode cX1_reads 34 = .ok (.istore 4, 2) := by decide +kernel
theorem dX1_reads_36 : decode cX1_reads 36 = .ok (.aload_n 0, 1) := by decide +kernel
theorem dX1_reads_37 : decode cX1_reads 37 = .ok (.getfield 16, 3) := by decide +kernel
theorem dX1_reads_40 : decode cX1_reads 40 = .ok (.iload_n 3, 1) := by decide +kernel
theorem dX1_reads_41 : decode cX1_reads 41 = .ok (.iaload, 1) := by decide +kernel
theorem dX1_reads_42 : decode cX1_reads 42 = .ok (.iconst (-1), 1) := by decide +kernel
theorem dX1_reads_43 : decode cX1_reads 43 = .ok (.if_icmp .eq 25, 3) := by decide +kernel
theorem dX1_reads_46 : decode cX1_reads 46 = .ok (.aload_n 0, 1) := by decide +kernel
theorem dX1_reads_47 : decode cX1_reads 47 = .ok (.getfield 29, 3) := by decide +kernel
theorem dX1_reads_50 : decode cX1_reads 50 = .ok (.iload 4, 2) := by decide +kernel
theorem dX1_reads_52 : decode cX1_reads 52 = .ok (.iaload, 1) := by decide +kernel
theorem dX1_reads_53 : decode cX1_reads 53 = .ok (.aload_n 0, 1) := by decide +kernel
theorem dX1_reads_54 : decode cX1_reads 54 = .ok (.getfield 16, 3) := by decide +kernel
theorem dX1_reads_57 : decode cX1_reads 57 = .ok (.iload_n 3, 1) := by decide +kernel
theorem dX1_reads_58 : decode cX1_reads 58 = .ok (.iaload, 1) := by decide +kernel
theorem dX1_reads_59 : decode cX1_reads 59 = .ok (.if_icmp .eq 9, 3) := by decide +kernel
theorem dX1_reads_62 : decode cX1_reads 62 = .ok (.iinc 4 1, 3) := by decide +kernel
theorem dX1_reads_65 : decode cX1_reads 65 = .ok (.goto (-29), 3) := by decide +kernel
theorem dX1_reads_68 : decode cX1_reads 68 = .ok (.iload 4, 2) := by decide +kernel
theorem dX1_reads_70 : decode cX1_reads 70 = .ok (.aload_n 0, 1) := by decide +kernel
theorem dX1_reads_71 : decode cX1_reads 71 = .ok (.getfield 16, 3) := by decide +kernel
theorem dX1_reads_74 : decode cX1_reads 74 = .ok (.iload_n 3, 1) := by decide +kernel
theorem dX1_reads_75 : decode cX1_reads 75 = .ok (.iaload, 1) := by decide +kernel
theorem dX1_reads_76 : decode cX1_reads 76 = .ok (.iconst (-1), 1) := by decide +kernel
theorem dX1_reads_77 : decode cX1_reads 77 = .ok (.if_icmp .ne 7, 3) := by decide +kernel
theorem dX1_reads_80 : decode cX1_reads 80 = .ok (.iconst 0, 1) := by decide +kernel
theorem dX1_reads_81 : decode cX1_reads 81 = .ok (.goto 4, 3) := by decide +kernel
theorem dX1_reads_84 : decode cX1_reads 84 = .ok (.iconst 1, 1) := by decide +kernel
theorem dX1_reads_85 : decode cX1_reads 85 = .ok (.iadd, 1) := by decide +kernel
theorem dX1_reads_86 : decode cX1_reads 86 = .ok (.istore 4, 2) := by decide +kernel
theorem dX1_reads_88 : decode cX1_reads 88 = .ok (.aload_n 0, 1) := by decide +kernel
theorem dX1_reads_89 : decode cX1_reads 89 = .ok (.getfield 49, 3) := by decide +kernel
theorem dX1_reads_92 : decode cX1_reads 92 = .ok (.istore 5, 2) := by decide +kernel
theorem dX1_reads_94 : decode cX1_reads 94 = .ok (.iload 5, 2) := by decide +kernel
theorem dX1_reads_96 : decode cX1_reads 96 = .ok (.iload 4, 2) := by decide +kernel
theorem dX1_reads_98 : decode cX1_reads 98 = .ok (.if_icmp .le 25, 3) := by decide +kernel
theorem dX1_reads_101 : decode cX1_reads 101 = .ok (.aload_n 0, 1) := by decide +kernel
theorem dX1_reads_102 : decode cX1_reads 102 = .ok (.getfield 29, 3) := by decide +kernel
theorem dX1_reads_105 : decode cX1_reads 105 = .ok (.iload 5, 2) := by decide +kernel
theorem dX1_reads_107 : decode cX1_reads 107 = .ok (.aload_n 0, 1) := by decide +kernel
theorem dX1_reads_108 : decode cX1_reads 108 = .ok (.getfield 29, 3) := by decide +kernel
theorem dX1_reads_111 : decode cX1_reads 111 = .ok (.iload 5, 2) := by decide +kernel
theorem dX1_reads_113 : decode cX1_reads 113 = .ok (.iconst 1, 1) := by decide +kernel
theorem dX1_reads_114 : decode cX1_reads 114 = .ok (.isub, 1) := by decide +kernel
theorem dX1_reads_115 : decode cX1_reads 115 = .ok (.iaload, 1) := by decide +kernel
theorem dX1_reads_116 : decode cX1_reads 116 = .ok (.iastore, 1) := by decide +kernel
theorem dX1_reads_117 : decode cX1_reads 117 = .ok (.iinc 5 (-1), 3) := by decide +kernel
theorem dX1_reads_120 : decode cX1_reads 120 = .ok (.goto (-26), 3) := by decide +kernel
theorem dX1_reads_123 : decode cX1_reads 123 = .ok (.aload_n 0, 1) := by decide +kernel
theorem dX1_reads_124 : decode cX1_reads 124 = .ok (.getfield 29, 3) := by decide +kernel
theorem dX1_reads_127 : decode cX1_reads 127 = .ok (.iload 4, 2) := by decide +kernel
theorem dX1_reads_129 : decode cX1_reads 129 = .ok (.iload_n 3, 1) := by decide +kernel
theorem dX1_reads_130 : decode cX1_reads 130 = .ok (.iastore, 1) := by decide +kernel
theorem dX1_reads_131 : decode cX1_reads 131 = .ok (.aload_n 0, 1) := by decide +kernel
theorem dX1_reads_132 : decode cX1_reads 132 = .ok (.dup, 1) := by decide +kernel
theorem dX1_reads_133 : decode cX1_reads 133 = .ok (.getfield 49, 3) := by decide +kernel
theorem dX1_reads_136 : decode cX1_reads 136 = .ok (.iconst 1, 1) := by decide +kernel
theorem dX1_reads_137 : decode cX1_reads 137 = .ok (.iadd, 1) := by decide +kernel
theorem dX1_reads_138 : decode cX1_reads 138 = .ok (.putfield 49, 3) := by decide +kernel
theorem dX1_reads_141 : decode cX1_reads 141 = .ok (.iinc 3 1, 3) := by decide +kernel
theorem dX1_reads_144 : decode cX1_reads 144 = .ok (.goto (-137), 3) := by decide +kernel
theorem dX1_reads_147 : decode cX1_reads 147 = .ok (.iconst 0, 1) := by decide +kernel
theorem dX1_reads_148 : decode cX1_reads 148 = .ok (.istore_n 3, 1) := by decide +kernel
theorem dX1_reads_149 : decode cX1_reads 149 = .ok (.iconst 0, 1) := by decide +kernel
theorem dX1_reads_150 : decode cX1_reads 150 = .ok (.istore 4, 2) := by decide +kernel
theorem dX1_reads_152 : decode cX1_reads 152 = .ok (.iload 4, 2) := by decide +kernel
theorem dX1_reads_154 : decode cX1_reads 154 = .ok (.aload_n 0, 1) := by decide +kernel
theorem dX1_reads_155 : decode cX1_reads 155 = .ok (.getfield 49, 3) := by decide +kernel
theorem dX1_reads_158 : decode cX1_reads 158 = .ok (.if_icmp .ge 105, 3) := by decide +kernel
theorem dX1_reads_161 : decode cX1_reads 161 = .ok (.iconst 0, 1) := by decide +kernel
theorem dX1_reads_162 : decode cX1_reads 162 = .ok (.istore 5, 2) := by decide +kernel
theorem dX1_reads_164 : decode cX1_reads 164 = .ok (.iconst 0, 1) := by decide +kernel
theorem dX1_reads_165 : decode cX1_reads 165 = .ok (.istore 6, 2) := by decide +kernel
theorem dX1_reads_167 : decode cX1_reads 167 = .ok (.iload 6, 2) := by decide +kernel
theorem dX1_reads_169 : decode cX1_reads 169 = .ok (.aload_n 0, 1) := by decide +kernel
theorem dX1_reads_170 : decode cX1_reads 170 = .ok (.getfield 40, 3) := by decide +kernel
theorem dX1_reads_173 : decode cX1_reads 173 = .ok (.if_icmp .ge 58, 3) := by decide +kernel
theorem dX1_reads_176 : decode cX1_reads 176 = .ok (.iload 5, 2) := by decide +kernel
theorem dX1_reads_178 : decode cX1_reads 178 = .ok (.ifCond .ne 40, 3) := by decide +kernel
theorem dX1_reads_181 : decode cX1_reads 181 = .ok (.lload_n 1, 1) := by decide +kernel
theorem dX1_reads_182 : decode cX1_reads 182 = .ok (.iload 6, 2) := by decide +kernel
theorem dX1_reads_184 : decode cX1_reads 184 = .ok (.invokestatic 43, 3) := by decide +kernel
theorem dX1_reads_187 : decode cX1_reads 187 = .ok (.ifCond .eq 35, 3) := by decide +kernel
theorem dX1_reads_190 : decode cX1_reads 190 = .ok (.aload_n 0, 1) := by decide +kernel
theorem dX1_reads_191 : decode cX1_reads 191 = .ok (.getfield 13, 3) := by decide +kernel
theorem dX1_reads_194 : decode cX1_reads 194 = .ok (.iload 6, 2) := by decide +kernel
theorem dX1_reads_196 : decode cX1_reads 196 = .ok (.iaload, 1) := by decide +kernel
theorem dX1_reads_197 : decode cX1_reads 197 = .ok (.iconst (-1), 1) := by decide +kernel
theorem dX1_reads_198 : decode cX1_reads 198 = .ok (.if_icmp .ne 24, 3) := by decide +kernel
theorem dX1_reads_201 : decode cX1_reads 201 = .ok (.aload_n 0, 1) := by decide +kernel
theorem dX1_reads_202 : decode cX1_reads 202 = .ok (.getfield 16, 3) := by decide +kernel
theorem dX1_reads_205 : decode cX1_reads 205 = .ok (.iload 6, 2) := by decide +kernel
theorem dX1_reads_207 : decode cX1_reads 207 = .ok (.iaload, 1) := by decide +kernel
theorem dX1_reads_208 : decode cX1_reads 208 = .ok (.aload_n 0, 1) := by decide +kernel
theorem dX1_reads_209 : decode cX1_reads 209 = .ok (.getfield 29, 3) := by decide +kernel
theorem dX1_reads_212 : decode cX1_reads 212 = .ok (.iload 4, 2) := by decide +kernel
theorem dX1_reads_214 : decode cX1_reads 214 = .ok (.iaload, 1) := by decide +kernel
theorem dX1_reads_215 : decode cX1_reads 215 = .ok (.if_icmp .ne 7, 3) := by decide +kernel
theorem dX1_reads_218 : decode cX1_reads 218 = .ok (.iconst 1, 1) := by decide +kernel
theorem dX1_reads_219 : decode cX1_reads 219 = .ok (.goto 4, 3) := by decide +kernel
theorem dX1_reads_222 : decode cX1_reads 222 = .ok (.iconst 0, 1) := by decide +kernel
theorem dX1_reads_223 : decode cX1_reads 223 = .ok (.istore 5, 2) := by decide +kernel
theorem dX1_reads_225 : decode cX1_reads 225 = .ok (.iinc 6 1, 3) := by decide +kernel
theorem dX1_reads_228 : decode cX1_reads 228 = .ok (.goto (-61), 3) := by decide +kernel
theorem dX1_reads_231 : decode cX1_reads 231 = .ok (.aload_n 0, 1) := by decide +kernel
theorem dX1_reads_232 : decode cX1_reads 232 = .ok (.getfield 29, 3) := by decide +kernel
theorem dX1_reads_235 : decode cX1_reads 235 = .ok (.iload_n 3, 1) := by decide +kernel
theorem dX1_reads_236 : decode cX1_reads 236 = .ok (.aload_n 0, 1) := by decide +kernel
theorem dX1_reads_237 : decode cX1_reads 237 = .ok (.getfield 29, 3) := by decide +kernel
theorem dX1_reads_240 : decode cX1_reads 240 = .ok (.iload 4, 2) := by decide +kernel
theorem dX1_reads_242 : decode cX1_reads 242 = .ok (.iaload, 1) := by decide +kernel
theorem dX1_reads_243 : decode cX1_reads 243 = .ok (.iastore, 1) := by decide +kernel
theorem dX1_reads_244 : decode cX1_reads 244 = .ok (.iload_n 3, 1) := by decide +kernel
theorem dX1_reads_245 : decode cX1_reads 245 = .ok (.iload 5, 2) := by decide +kernel
theorem dX1_reads_247 : decode cX1_reads 247 = .ok (.ifCond .eq 7, 3) := by decide +kernel
theorem dX1_reads_250 : decode cX1_reads 250 = .ok (.iconst 0, 1) := by decide +kernel
theorem dX1_reads_251 : decode cX1_reads 251 = .ok (.goto 4, 3) := by decide +kernel
theorem dX1_reads_254 : decode cX1_reads 254 = .ok (.iconst 1, 1) := by decide +kernel
theorem dX1_reads_255 : decode cX1_reads 255 = .ok (.iadd, 1) := by decide +kernel
theorem dX1_reads_256 : decode cX1_reads 256 = .ok (.istore_n 3, 1) := by decide +kernel
theorem dX1_reads_257 : decode cX1_reads 257 = .ok (.iinc 4 1, 3) := by decide +kernel
theorem dX1_reads_260 : decode cX1_reads 260 = .ok (.goto (-108), 3) := by decide +kernel
theorem dX1_reads_263 : decode cX1_reads 263 = .ok (.aload_n 0, 1) := by decide +kernel
theorem dX1_reads_264 : decode cX1_reads 264 = .ok (.iload_n 3, 1) := by decide +kernel
theorem dX1_reads_265 : decode cX1_reads 265 = .ok (.putfield 49, 3) := by decide +kernel
theorem dX1_reads_268 : decode cX1_reads 268 = .ok (.return_, 1) := by decide +kernel
set_option maxRecDepth 20000 in
theorem ggX1_makes_X1_headsOf : GoodIn wsX1_makes wsX1_headsOf := goodIn_r _ [12, 2, 5, 13, 14, 15, 11, 16, 17, 18, 19, 20, 21, 22, 23, 24, 25, 26] (by decide +kernel) (by decide +kernel)
set_option maxRecDepth 20000 in
theorem gX1_makes_X1_headsOf : GoodIn wsX1_makes (wsV RX1 52 RX1 yX1_headsOf wsX1_headsOf) := goodIn_app (goodIn_of _ (by decide +kernel)) ggX1_makes_X1_headsOf
theorem dX1_makes_0 : decode cX1_makes 0 = .ok (.aload_n 0, 1) := by decide +kernel
theorem dX1_makes_1 : decode cX1_makes 1 = .ok (.getfield 7, 3) := by decide +kernel
theorem dX1_makes_4 : decode cX1_makes 4 = .ok (.aload_n 0, 1) := by decide +kernel
theorem dX1_makes_5 : decode cX1_makes 5 = .ok (.getfield 40, 3) := by decide +kernel
theorem dX1_makes_8 : decode cX1_makes 8 = .ok (.iload_n 1, 1) := by decide +kernel
theorem dX1_makes_9 : decode cX1_makes 9 = .ok (.iastore, 1) := by decide +kernel
theorem dX1_makes_10 : decode cX1_makes 10 = .ok (.aload_n 0, 1) := by decide +kernel
theorem dX1_makes_11 : decode cX1_makes 11 = .ok (.getfield 13, 3) := by decide +kernel
theorem dX1_makes_14 : decode cX1_makes 14 = .ok (.aload_n 0, 1) := by decide +kernel
theorem dX1_makes_15 : decode cX1_makes 15 = .ok (.getfield 40, 3) := by decide +kernel
theorem dX1_makes_18 : decode cX1_makes 18 = .ok (.iload_n 2, 1) := by decide +kernel
theorem dX1_makes_19 : decode cX1_makes 19 = .ok (.iastore, 1) := by decide +kernel
theorem dX1_makes_20 : decode cX1_makes 20 = .ok (.aload_n 0, 1) := by decide +kernel
theorem dX1_makes_21 : decode cX1_makes 21 = .ok (.getfield 16, 3) := by decide +kernel
theorem dX1_makes_24 : decode cX1_makes 24 = .ok (.aload_n 0, 1) := by decide +kernel
theorem dX1_makes_25 : decode cX1_makes 25 = .ok (.getfield 40, 3) := by decide +kernel
theorem dX1_makes_28 : decode cX1_makes 28 = .ok (.iload_n 3, 1) := by decide +kernel
theorem dX1_makes_29 : decode cX1_makes 29 = .ok (.iastore, 1) := by decide +kernel
theorem dX1_makes_30 : decode cX1_makes 30 = .ok (.aload_n 0, 1) := by decide +kernel
theorem dX1_makes_31 : decode cX1_makes 31 = .ok (.getfield 19, 3) := by decide +kernel
theorem dX1_makes_34 : decode cX1_makes 34 = .ok (.aload_n 0, 1) := by decide +kernel
theorem dX1_makes_35 : decode cX1_makes 35 = .ok (.getfield 40, 3) := by decide +kernel
theorem dX1_makes_38 : decode cX1_makes 38 = .ok (.aload_n 0, 1) := by decide +kernel
theorem dX1_makes_39 : decode cX1_makes 39 = .ok (.aload_n 0, 1) := by decide +kernel
theorem dX1_makes_40 : decode cX1_makes 40 = .ok (.getfield 26, 3) := by decide +kernel
theorem dX1_makes_43 : decode cX1_makes 43 = .ok (.iload_n 1, 1) := by decide +kernel
theorem dX1_makes_44 : decode cX1_makes 44 = .ok (.laload, 1) := by decide +kernel
theorem dX1_makes_45 : decode cX1_makes 45 = .ok (.invokevirtual 52, 3) := by decide +kernel
theorem dX1_makes_48 : decode cX1_makes 48 = .ok (.lastore, 1) := by decide +kernel
theorem dX1_makes_49 : decode cX1_makes 49 = .ok (.aload_n 0, 1) := by decide +kernel
theorem dX1_makes_50 : decode cX1_makes 50 = .ok (.getfield 23, 3) := by decide +kernel
theorem dX1_makes_53 : decode cX1_makes 53 = .ok (.aload_n 0, 1) := by decide +kernel
theorem dX1_makes_54 : decode cX1_makes 54 = .ok (.getfield 40, 3) := by decide +kernel
theorem dX1_makes_57 : decode cX1_makes 57 = .ok (.aload_n 0, 1) := by decide +kernel
theorem dX1_makes_58 : decode cX1_makes 58 = .ok (.getfield 26, 3) := by decide +kernel
theorem dX1_makes_61 : decode cX1_makes 61 = .ok (.iload_n 1, 1) := by decide +kernel
theorem dX1_makes_62 : decode cX1_makes 62 = .ok (.laload, 1) := by decide +kernel
theorem dX1_makes_63 : decode cX1_makes 63 = .ok (.lastore, 1) := by decide +kernel
theorem dX1_makes_64 : decode cX1_makes 64 = .ok (.aload_n 0, 1) := by decide +kernel
theorem dX1_makes_65 : decode cX1_makes 65 = .ok (.getfield 26, 3) := by decide +kernel
theorem dX1_makes_68 : decode cX1_makes 68 = .ok (.iload_n 1, 1) := by decide +kernel
theorem dX1_makes_69 : decode cX1_makes 69 = .ok (.dup2, 1) := by decide +kernel
theorem dX1_makes_70 : decode cX1_makes 70 = .ok (.laload, 1) := by decide +kernel
theorem dX1_makes_71 : decode cX1_makes 71 = .ok (.lconst 1, 1) := by decide +kernel
theorem dX1_makes_72 : decode cX1_makes 72 = .ok (.aload_n 0, 1) := by decide +kernel
theorem dX1_makes_73 : decode cX1_makes 73 = .ok (.getfield 40, 3) := by decide +kernel
theorem dX1_makes_76 : decode cX1_makes 76 = .ok (.lshl, 1) := by decide +kernel
theorem dX1_makes_77 : decode cX1_makes 77 = .ok (.lor, 1) := by decide +kernel
theorem dX1_makes_78 : decode cX1_makes 78 = .ok (.lastore, 1) := by decide +kernel
theorem dX1_makes_79 : decode cX1_makes 79 = .ok (.aload_n 0, 1) := by decide +kernel
theorem dX1_makes_80 : decode cX1_makes 80 = .ok (.dup, 1) := by decide +kernel
theorem dX1_makes_81 : decode cX1_makes 81 = .ok (.getfield 40, 3) := by decide +kernel
theorem dX1_makes_84 : decode cX1_makes 84 = .ok (.iconst 1, 1) := by decide +kernel
theorem dX1_makes_85 : decode cX1_makes 85 = .ok (.iadd, 1) := by decide +kernel
theorem dX1_makes_86 : decode cX1_makes 86 = .ok (.putfield 40, 3) := by decide +kernel
theorem dX1_makes_89 : decode cX1_makes 89 = .ok (.aload_n 0, 1) := by decide +kernel
theorem dX1_makes_90 : decode cX1_makes 90 = .ok (.getfield 40, 3) := by decide +kernel
theorem dX1_makes_93 : decode cX1_makes 93 = .ok (.iconst 1, 1) := by decide +kernel
theorem dX1_makes_94 : decode cX1_makes 94 = .ok (.isub, 1) := by decide +kernel
theorem dX1_makes_95 : decode cX1_makes 95 = .ok (.ireturn, 1) := by decide +kernel
set_option maxRecDepth 20000 in
theorem ggX1_looks_X1_isAuthor : GoodIn wsX1_looks wsX1_isAuthor := goodIn_r _ [5, 6, 7, 4, 8] (by decide +kernel) (by decide +kernel)
set_option maxRecDepth 20000 in
theorem gX1_looks_X1_isAuthor : GoodIn wsX1_looks (va_wsS RX1 56 yX1_isAuthor wsX1_isAuthor) := goodIn_app (goodIn_of _ (by decide +kernel)) ggX1_looks_X1_isAuthor
set_option maxRecDepth 20000 in
theorem ggX1_looks_X1_reads : GoodIn wsX1_looks wsX1_reads := goodIn_r _ [12, 13, 14, 15, 16, 17, 18, 19, 4, 20, 21, 22, 23, 24, 25, 26, 27, 28, 29, 30] (by decide +kernel) (by decide +kernel)
set_option maxRecDepth 20000 in
theorem gX1_looks_X1_reads : GoodIn wsX1_looks (wsV RX1 60 RX1 yX1_reads wsX1_reads) := goodIn_app (goodIn_of _ (by decide +kernel)) ggX1_looks_X1_reads
theorem dX1_looks_0 : decode cX1_looks 0 = .ok (.iload_n 1, 1) := by decide +kernel
theorem dX1_looks_1 : decode cX1_looks 1 = .ok (.invokestatic 56, 3) := by decide +kernel
theorem dX1_looks_4 : decode cX1_looks 4 = .ok (.istore_n 2, 1) := by decide +kernel
theorem dX1_looks_5 : decode cX1_looks 5 = .ok (.iload_n 2, 1) := by decide +kernel
theorem dX1_looks_6 : decode cX1_looks 6 = .ok (.ifCond .eq 13, 3) := by decide +kernel
theorem dX1_looks_9 : decode cX1_looks 9 = .ok (.aload_n 0, 1) := by decide +kernel
theorem dX1_looks_10 : decode cX1_looks 10 = .ok (.aload_n 0, 1) := by decide +kernel
theorem dX1_looks_11 : decode cX1_looks 11 = .ok (.getfield 26, 3) := by decide +kernel
theorem dX1_looks_14 : decode cX1_looks 14 = .ok (.iload_n 1, 1) := by decide +kernel
theorem dX1_looks_15 : decode cX1_looks 15 = .ok (.laload, 1) := by decide +kernel
theorem dX1_looks_16 : decode cX1_looks 16 = .ok (.invokevirtual 60, 3) := by decide +kernel
theorem dX1_looks_19 : decode cX1_looks 19 = .ok (.iload_n 2, 1) := by decide +kernel
theorem dX1_looks_20 : decode cX1_looks 20 = .ok (.ireturn, 1) := by decide +kernel
set_option maxRecDepth 20000 in
theorem ggX1_insert_X1_looks : GoodIn wsX1_insert wsX1_looks := goodIn_r _ [8, 9, 10, 11, 7, 12, 13, 14, 15, 16, 17, 18, 19, 1, 2, 20, 21, 3, 22, 23, 24, 42, 43, 44, 45, 46, 47, 48, 49, 50, 51] (by decide +kernel) (by decide +kernel)
set_option maxRecDepth 20000 in
theorem gX1_insert_X1_looks : GoodIn wsX1_insert (wsV RX1 64 RX1 yX1_looks wsX1_looks) := goodIn_app (goodIn_of _ (by decide +kernel)) ggX1_insert_X1_looks
set_option maxRecDepth 20000 in
theorem ggX1_insert_X1_in : GoodIn wsX1_insert wsX1_in := goodIn_r _ [15] (by decide +kernel) (by decide +kernel)
set_option maxRecDepth 20000 in
theorem gX1_insert_X1_in : GoodIn wsX1_insert (va_wsS RX1 36 yX1_in wsX1_in) := goodIn_app (goodIn_of _ (by decide +kernel)) ggX1_insert_X1_in
set_option maxRecDepth 20000 in
theorem ggX1_insert_X1_asked__ : GoodIn wsX1_insert wsX1_asked__ := goodIn_r _ [28, 29, 42, 43, 44, 45, 46, 47, 48, 49, 50, 51] (by decide +kernel) (by decide +kernel)
set_option maxRecDepth 20000 in
theorem gX1_insert_X1_asked__ : GoodIn wsX1_insert (wsV RX1 67 RX1 yX1_asked__ wsX1_asked__) := goodIn_app (goodIn_of _ (by decide +kernel)) ggX1_insert_X1_asked__
set_option maxRecDepth 20000 in
theorem ggX1_insert_X1_makes : GoodIn wsX1_insert wsX1_makes := goodIn_r _ [33, 34, 2, 20, 21, 35, 9, 36, 37, 38, 39, 7, 40, 41, 22, 23, 24, 42, 43, 44, 45, 46, 47, 48, 49, 50, 51] (by decide +kernel) (by decide +kernel)
set_option maxRecDepth 20000 in
theorem gX1_insert_X1_makes : GoodIn wsX1_insert (wsV RX1 71 RX1 yX1_makes wsX1_makes) := goodIn_app (goodIn_of _ (by decide +kernel)) ggX1_insert_X1_makes
theorem dX1_insert_0 : decode cX1_insert 0 = .ok (.aload_n 0, 1) := by decide +kernel
theorem dX1_insert_1 : decode cX1_insert 1 = .ok (.iload_n 1, 1) := by decide +kernel
theorem dX1_insert_2 : decode cX1_insert 2 = .ok (.invokevirtual 64, 3) := by decide +kernel
theorem dX1_insert_5 : decode cX1_insert 5 = .ok (.ifCond .eq 19, 3) := by decide +kernel
theorem dX1_insert_8 : decode cX1_insert 8 = .ok (.iload_n 2, 1) := by decide +kernel
theorem dX1_insert_9 : decode cX1_insert 9 = .ok (.iconst 0, 1) := by decide +kernel
theorem dX1_insert_10 : decode cX1_insert 10 = .ok (.aload_n 0, 1) := by decide +kernel
theorem dX1_insert_11 : decode cX1_insert 11 = .ok (.getfield 49, 3) := by decide +kernel
theorem dX1_insert_14 : decode cX1_insert 14 = .ok (.invokestatic 36, 3) := by decide +kernel
theorem dX1_insert_17 : decode cX1_insert 17 = .ok (.ifCond .eq 7, 3) := by decide +kernel
theorem dX1_insert_20 : decode cX1_insert 20 = .ok (.iconst 1, 1) := by decide +kernel
theorem dX1_insert_21 : decode cX1_insert 21 = .ok (.goto 4, 3) := by decide +kernel
theorem dX1_insert_24 : decode cX1_insert 24 = .ok (.iconst 0, 1) := by decide +kernel
theorem dX1_insert_25 : decode cX1_insert 25 = .ok (.istore 4, 2) := by decide +kernel
theorem dX1_insert_27 : decode cX1_insert 27 = .ok (.aload_n 0, 1) := by decide +kernel
theorem dX1_insert_28 : decode cX1_insert 28 = .ok (.iload 4, 2) := by decide +kernel
theorem dX1_insert_30 : decode cX1_insert 30 = .ok (.iload_n 3, 1) := by decide +kernel
theorem dX1_insert_31 : decode cX1_insert 31 = .ok (.iconst 0, 1) := by decide +kernel
theorem dX1_insert_32 : decode cX1_insert 32 = .ok (.bipush 25, 2) := by decide +kernel
theorem dX1_insert_34 : decode cX1_insert 34 = .ok (.invokestatic 36, 3) := by decide +kernel
theorem dX1_insert_37 : decode cX1_insert 37 = .ok (.aload_n 0, 1) := by decide +kernel
theorem dX1_insert_38 : decode cX1_insert 38 = .ok (.getfield 40, 3) := by decide +kernel
theorem dX1_insert_41 : decode cX1_insert 41 = .ok (.bipush 60, 2) := by decide +kernel
theorem dX1_insert_43 : decode cX1_insert 43 = .ok (.if_icmp .ge 7, 3) := by decide +kernel
theorem dX1_insert_46 : decode cX1_insert 46 = .ok (.iconst 1, 1) := by decide +kernel
theorem dX1_insert_47 : decode cX1_insert 47 = .ok (.goto 4, 3) := by decide +kernel
theorem dX1_insert_50 : decode cX1_insert 50 = .ok (.iconst 0, 1) := by decide +kernel
theorem dX1_insert_51 : decode cX1_insert 51 = .ok (.invokevirtual 67, 3) := by decide +kernel
theorem dX1_insert_54 : decode cX1_insert 54 = .ok (.ifCond .eq 28, 3) := by decide +kernel
theorem dX1_insert_57 : decode cX1_insert 57 = .ok (.aload_n 0, 1) := by decide +kernel
theorem dX1_insert_58 : decode cX1_insert 58 = .ok (.iload_n 1, 1) := by decide +kernel
theorem dX1_insert_59 : decode cX1_insert 59 = .ok (.iload_n 3, 1) := by decide +kernel
theorem dX1_insert_60 : decode cX1_insert 60 = .ok (.iload_n 2, 1) := by decide +kernel
theorem dX1_insert_61 : decode cX1_insert 61 = .ok (.ifCond .ne 7, 3) := by decide +kernel
theorem dX1_insert_64 : decode cX1_insert 64 = .ok (.iconst (-1), 1) := by decide +kernel
theorem dX1_insert_65 : decode cX1_insert 65 = .ok (.goto 11, 3) := by decide +kernel
theorem dX1_insert_68 : decode cX1_insert 68 = .ok (.aload_n 0, 1) := by decide +kernel
theorem dX1_insert_69 : decode cX1_insert 69 = .ok (.getfield 29, 3) := by decide +kernel
theorem dX1_insert_72 : decode cX1_insert 72 = .ok (.iload_n 2, 1) := by decide +kernel
theorem dX1_insert_73 : decode cX1_insert 73 = .ok (.iconst 1, 1) := by decide +kernel
theorem dX1_insert_74 : decode cX1_insert 74 = .ok (.isub, 1) := by decide +kernel
theorem dX1_insert_75 : decode cX1_insert 75 = .ok (.iaload, 1) := by decide +kernel
theorem dX1_insert_76 : decode cX1_insert 76 = .ok (.invokevirtual 71, 3) := by decide +kernel
theorem dX1_insert_79 : decode cX1_insert 79 = .ok (.goto 4, 3) := by decide +kernel
theorem dX1_insert_82 : decode cX1_insert 82 = .ok (.iconst 0, 1) := by decide +kernel
theorem dX1_insert_83 : decode cX1_insert 83 = .ok (.ireturn, 1) := by decide +kernel
set_option maxRecDepth 20000 in
theorem ggX1_delete_X1_looks : GoodIn wsX1_delete wsX1_looks := goodIn_r _ [8, 9, 10, 11, 7, 12, 13, 14, 15, 16, 17, 18, 19, 1, 2, 20, 21, 3, 22, 23, 24, 42, 43, 44, 45, 46, 47, 48, 49, 50, 51] (by decide +kernel) (by decide +kernel)
set_option maxRecDepth 20000 in
theorem gX1_delete_X1_looks : GoodIn wsX1_delete (wsV RX1 64 RX1 yX1_looks wsX1_looks) := goodIn_app (goodIn_of _ (by decide +kernel)) ggX1_delete_X1_looks
set_option maxRecDepth 20000 in
theorem ggX1_delete_X1_in : GoodIn wsX1_delete wsX1_in := goodIn_r _ [15] (by decide +kernel) (by decide +kernel)
set_option maxRecDepth 20000 in
theorem gX1_delete_X1_in : GoodIn wsX1_delete (va_wsS RX1 36 yX1_in wsX1_in) := goodIn_app (goodIn_of _ (by decide +kernel)) ggX1_delete_X1_in
set_option maxRecDepth 20000 in
theorem ggX1_delete_X1_asked_ : GoodIn wsX1_delete wsX1_asked_ := goodIn_r _ [28, 29, 42, 43, 44, 45, 46, 47, 48, 49, 50, 51] (by decide +kernel) (by decide +kernel)
set_option maxRecDepth 20000 in
theorem gX1_delete_X1_asked_ : GoodIn wsX1_delete (wsV RX1 75 RX1 yX1_asked_ wsX1_asked_) := goodIn_app (goodIn_of _ (by decide +kernel)) ggX1_delete_X1_asked_
set_option maxRecDepth 20000 in
theorem ggX1_delete_X1_makes : GoodIn wsX1_delete wsX1_makes := goodIn_r _ [33, 34, 2, 20, 21, 35, 9, 36, 37, 38, 39, 7, 40, 41, 22, 23, 24, 42, 43, 44, 45, 46, 47, 48, 49, 50, 51] (by decide +kernel) (by decide +kernel)
set_option maxRecDepth 20000 in
theorem gX1_delete_X1_makes : GoodIn wsX1_delete (wsV RX1 71 RX1 yX1_makes wsX1_makes) := goodIn_app (goodIn_of _ (by decide +kernel)) ggX1_delete_X1_makes
theorem dX1_delete_0 : decode cX1_delete 0 = .ok (.aload_n 0, 1) := by decide +kernel
theorem dX1_delete_1 : decode cX1_delete 1 = .ok (.iload_n 1, 1) := by decide +kernel
theorem dX1_delete_2 : decode cX1_delete 2 = .ok (.invokevirtual 64, 3) := by decide +kernel
theorem dX1_delete_5 : decode cX1_delete 5 = .ok (.ifCond .eq 21, 3) := by decide +kernel
theorem dX1_delete_8 : decode cX1_delete 8 = .ok (.iload_n 2, 1) := by decide +kernel
theorem dX1_delete_9 : decode cX1_delete 9 = .ok (.iconst 0, 1) := by decide +kernel
theorem dX1_delete_10 : decode cX1_delete 10 = .ok (.aload_n 0, 1) := by decide +kernel
theorem dX1_delete_11 : decode cX1_delete 11 = .ok (.getfield 49, 3) := by decide +kernel
theorem dX1_delete_14 : decode cX1_delete 14 = .ok (.iconst 1, 1) := by decide +kernel
theorem dX1_delete_15 : decode cX1_delete 15 = .ok (.isub, 1) := by decide +kernel
theorem dX1_delete_16 : decode cX1_delete 16 = .ok (.invokestatic 36, 3) := by decide +kernel
theorem dX1_delete_19 : decode cX1_delete 19 = .ok (.ifCond .eq 7, 3) := by decide +kernel
theorem dX1_delete_22 : decode cX1_delete 22 = .ok (.iconst 1, 1) := by decide +kernel
theorem dX1_delete_23 : decode cX1_delete 23 = .ok (.goto 4, 3) := by decide +kernel
theorem dX1_delete_26 : decode cX1_delete 26 = .ok (.iconst 0, 1) := by decide +kernel
theorem dX1_delete_27 : decode cX1_delete 27 = .ok (.istore_n 3, 1) := by decide +kernel
theorem dX1_delete_28 : decode cX1_delete 28 = .ok (.aload_n 0, 1) := by decide +kernel
theorem dX1_delete_29 : decode cX1_delete 29 = .ok (.iload_n 3, 1) := by decide +kernel
theorem dX1_delete_30 : decode cX1_delete 30 = .ok (.aload_n 0, 1) := by decide +kernel
theorem dX1_delete_31 : decode cX1_delete 31 = .ok (.getfield 40, 3) := by decide +kernel
theorem dX1_delete_34 : decode cX1_delete 34 = .ok (.bipush 60, 2) := by decide +kernel
theorem dX1_delete_36 : decode cX1_delete 36 = .ok (.if_icmp .ge 7, 3) := by decide +kernel
theorem dX1_delete_39 : decode cX1_delete 39 = .ok (.iconst 1, 1) := by decide +kernel
theorem dX1_delete_40 : decode cX1_delete 40 = .ok (.goto 4, 3) := by decide +kernel
theorem dX1_delete_43 : decode cX1_delete 43 = .ok (.iconst 0, 1) := by decide +kernel
theorem dX1_delete_44 : decode cX1_delete 44 = .ok (.invokevirtual 75, 3) := by decide +kernel
theorem dX1_delete_47 : decode cX1_delete 47 = .ok (.ifCond .eq 18, 3) := by decide +kernel
theorem dX1_delete_50 : decode cX1_delete 50 = .ok (.aload_n 0, 1) := by decide +kernel
theorem dX1_delete_51 : decode cX1_delete 51 = .ok (.iload_n 1, 1) := by decide +kernel
theorem dX1_delete_52 : decode cX1_delete 52 = .ok (.iconst (-1), 1) := by decide +kernel
theorem dX1_delete_53 : decode cX1_delete 53 = .ok (.aload_n 0, 1) := by decide +kernel
theorem dX1_delete_54 : decode cX1_delete 54 = .ok (.getfield 29, 3) := by decide +kernel
theorem dX1_delete_57 : decode cX1_delete 57 = .ok (.iload_n 2, 1) := by decide +kernel
theorem dX1_delete_58 : decode cX1_delete 58 = .ok (.iaload, 1) := by decide +kernel
theorem dX1_delete_59 : decode cX1_delete 59 = .ok (.invokevirtual 71, 3) := by decide +kernel
theorem dX1_delete_62 : decode cX1_delete 62 = .ok (.goto 4, 3) := by decide +kernel
theorem dX1_delete_65 : decode cX1_delete 65 = .ok (.iconst 0, 1) := by decide +kernel
theorem dX1_delete_66 : decode cX1_delete 66 = .ok (.ireturn, 1) := by decide +kernel
set_option maxRecDepth 20000 in
theorem ggX1_learns_X1_count : GoodIn wsX1_learns wsX1_count := goodIn_r _ [6, 7, 8, 9, 5, 10, 11, 12, 13, 14, 15, 16, 17, 18, 19, 20] (by decide +kernel) (by decide +kernel)
set_option maxRecDepth 20000 in
theorem gX1_learns_X1_count : GoodIn wsX1_learns (wsV RX1 78 RX1 yX1_count wsX1_count) := goodIn_app (goodIn_of _ (by decide +kernel)) ggX1_learns_X1_count
theorem dX1_learns_0 : decode cX1_learns 0 = .ok (.aload_n 0, 1) := by decide +kernel
theorem dX1_learns_1 : decode cX1_learns 1 = .ok (.aload_n 0, 1) := by decide +kernel
theorem dX1_learns_2 : decode cX1_learns 2 = .ok (.getfield 26, 3) := by decide +kernel
theorem dX1_learns_5 : decode cX1_learns 5 = .ok (.iload_n 1, 1) := by decide +kernel
theorem dX1_learns_6 : decode cX1_learns 6 = .ok (.laload, 1) := by decide +kernel
theorem dX1_learns_7 : decode cX1_learns 7 = .ok (.invokevirtual 78, 3) := by decide +kernel
theorem dX1_learns_10 : decode cX1_learns 10 = .ok (.istore 4, 2) := by decide +kernel
theorem dX1_learns_12 : decode cX1_learns 12 = .ok (.aload_n 0, 1) := by decide +kernel
theorem dX1_learns_13 : decode cX1_learns 13 = .ok (.getfield 26, 3) := by decide +kernel
theorem dX1_learns_16 : decode cX1_learns 16 = .ok (.iload_n 1, 1) := by decide +kernel
theorem dX1_learns_17 : decode cX1_learns 17 = .ok (.dup2, 1) := by decide +kernel
theorem dX1_learns_18 : decode cX1_learns 18 = .ok (.laload, 1) := by decide +kernel
theorem dX1_learns_19 : decode cX1_learns 19 = .ok (.lload_n 2, 1) := by decide +kernel
theorem dX1_learns_20 : decode cX1_learns 20 = .ok (.lor, 1) := by decide +kernel
theorem dX1_learns_21 : decode cX1_learns 21 = .ok (.lastore, 1) := by decide +kernel
theorem dX1_learns_22 : decode cX1_learns 22 = .ok (.aload_n 0, 1) := by decide +kernel
theorem dX1_learns_23 : decode cX1_learns 23 = .ok (.aload_n 0, 1) := by decide +kernel
theorem dX1_learns_24 : decode cX1_learns 24 = .ok (.getfield 26, 3) := by decide +kernel
theorem dX1_learns_27 : decode cX1_learns 27 = .ok (.iload_n 1, 1) := by decide +kernel
theorem dX1_learns_28 : decode cX1_learns 28 = .ok (.laload, 1) := by decide +kernel
theorem dX1_learns_29 : decode cX1_learns 29 = .ok (.invokevirtual 78, 3) := by decide +kernel
theorem dX1_learns_32 : decode cX1_learns 32 = .ok (.iload 4, 2) := by decide +kernel
theorem dX1_learns_34 : decode cX1_learns 34 = .ok (.isub, 1) := by decide +kernel
theorem dX1_learns_35 : decode cX1_learns 35 = .ok (.ireturn, 1) := by decide +kernel
set_option maxRecDepth 20000 in
theorem ggX1_learn_X1_isAuthor : GoodIn wsX1_learn wsX1_isAuthor := goodIn_r _ [5, 6, 7, 4, 8] (by decide +kernel) (by decide +kernel)
set_option maxRecDepth 20000 in
theorem gX1_learn_X1_isAuthor : GoodIn wsX1_learn (va_wsS RX1 56 yX1_isAuthor wsX1_isAuthor) := goodIn_app (goodIn_of _ (by decide +kernel)) ggX1_learn_X1_isAuthor
set_option maxRecDepth 20000 in
theorem ggX1_learn_X1_asked : GoodIn wsX1_learn wsX1_asked := goodIn_r _ [12, 13, 26, 27, 28, 29, 30, 31, 32, 33, 34, 35] (by decide +kernel) (by decide +kernel)
set_option maxRecDepth 20000 in
theorem gX1_learn_X1_asked : GoodIn wsX1_learn (wsV RX1 82 RX1 yX1_asked wsX1_asked) := goodIn_app (goodIn_of _ (by decide +kernel)) ggX1_learn_X1_asked
set_option maxRecDepth 20000 in
theorem ggX1_learn_X1_learns : GoodIn wsX1_learn wsX1_learns := goodIn_r _ [17, 1, 18, 19, 20, 4, 21, 22, 23, 24, 25, 26, 27, 28, 29, 30, 31, 32, 33, 34, 35] (by decide +kernel) (by decide +kernel)
set_option maxRecDepth 20000 in
theorem gX1_learn_X1_learns : GoodIn wsX1_learn (wsV RX1 85 RX1 yX1_learns wsX1_learns) := goodIn_app (goodIn_of _ (by decide +kernel)) ggX1_learn_X1_learns
theorem dX1_learn_0 : decode cX1_learn 0 = .ok (.aload_n 0, 1) := by decide +kernel
theorem dX1_learn_1 : decode cX1_learn 1 = .ok (.iload_n 1, 1) := by decide +kernel
theorem dX1_learn_2 : decode cX1_learn 2 = .ok (.invokestatic 56, 3) := by decide +kernel
theorem dX1_learn_5 : decode cX1_learn 5 = .ok (.ifCond .eq 14, 3) := by decide +kernel
theorem dX1_learn_8 : decode cX1_learn 8 = .ok (.iload_n 2, 1) := by decide +kernel
theorem dX1_learn_9 : decode cX1_learn 9 = .ok (.invokestatic 56, 3) := by decide +kernel
theorem dX1_learn_12 : decode cX1_learn 12 = .ok (.ifCond .eq 7, 3) := by decide +kernel
theorem dX1_learn_15 : decode cX1_learn 15 = .ok (.iconst 1, 1) := by decide +kernel
theorem dX1_learn_16 : decode cX1_learn 16 = .ok (.goto 4, 3) := by decide +kernel
theorem dX1_learn_19 : decode cX1_learn 19 = .ok (.iconst 0, 1) := by decide +kernel
theorem dX1_learn_20 : decode cX1_learn 20 = .ok (.invokevirtual 82, 3) := by decide +kernel
theorem dX1_learn_23 : decode cX1_learn 23 = .ok (.ifCond .eq 17, 3) := by decide +kernel
theorem dX1_learn_26 : decode cX1_learn 26 = .ok (.aload_n 0, 1) := by decide +kernel
theorem dX1_learn_27 : decode cX1_learn 27 = .ok (.iload_n 1, 1) := by decide +kernel
theorem dX1_learn_28 : decode cX1_learn 28 = .ok (.aload_n 0, 1) := by decide +kernel
theorem dX1_learn_29 : decode cX1_learn 29 = .ok (.getfield 26, 3) := by decide +kernel
theorem dX1_learn_32 : decode cX1_learn 32 = .ok (.iload_n 2, 1) := by decide +kernel
theorem dX1_learn_33 : decode cX1_learn 33 = .ok (.laload, 1) := by decide +kernel
theorem dX1_learn_34 : decode cX1_learn 34 = .ok (.invokevirtual 85, 3) := by decide +kernel
theorem dX1_learn_37 : decode cX1_learn 37 = .ok (.goto 4, 3) := by decide +kernel
theorem dX1_learn_40 : decode cX1_learn 40 = .ok (.iconst 0, 1) := by decide +kernel
theorem dX1_learn_41 : decode cX1_learn 41 = .ok (.ireturn, 1) := by decide +kernel
set_option maxRecDepth 20000 in
theorem ggX1_learnEvent_X1_isAuthor : GoodIn wsX1_learnEvent wsX1_isAuthor := goodIn_r _ [4, 5, 6, 3, 7] (by decide +kernel) (by decide +kernel)
set_option maxRecDepth 20000 in
theorem gX1_learnEvent_X1_isAuthor : GoodIn wsX1_learnEvent (va_wsS RX1 56 yX1_isAuthor wsX1_isAuthor) := goodIn_app (goodIn_of _ (by decide +kernel)) ggX1_learnEvent_X1_isAuthor
set_option maxRecDepth 20000 in
theorem ggX1_learnEvent_X1_isEvent : GoodIn wsX1_learnEvent wsX1_isEvent := goodIn_r _ [11, 12, 5, 6, 3, 7, 35, 36, 37, 38, 39, 40, 41, 42, 43, 44] (by decide +kernel) (by decide +kernel)
set_option maxRecDepth 20000 in
theorem gX1_learnEvent_X1_isEvent : GoodIn wsX1_learnEvent (wsV RX1 89 RX1 yX1_isEvent wsX1_isEvent) := goodIn_app (goodIn_of _ (by decide +kernel)) ggX1_learnEvent_X1_isEvent
set_option maxRecDepth 20000 in
theorem ggX1_learnEvent_X1_asked : GoodIn wsX1_learnEvent wsX1_asked := goodIn_r _ [16, 17, 35, 36, 37, 38, 39, 40, 41, 42, 43, 44] (by decide +kernel) (by decide +kernel)
set_option maxRecDepth 20000 in
theorem gX1_learnEvent_X1_asked : GoodIn wsX1_learnEvent (wsV RX1 82 RX1 yX1_asked wsX1_asked) := goodIn_app (goodIn_of _ (by decide +kernel)) ggX1_learnEvent_X1_asked
set_option maxRecDepth 20000 in
theorem ggX1_learnEvent_X1_versionOf : GoodIn wsX1_learnEvent wsX1_versionOf := goodIn_r _ [21, 22, 35, 36, 37, 38, 39, 40, 41, 42, 43, 44] (by decide +kernel) (by decide +kernel)
set_option maxRecDepth 20000 in
theorem gX1_learnEvent_X1_versionOf : GoodIn wsX1_learnEvent (wsV RX1 92 RX1 yX1_versionOf wsX1_versionOf) := goodIn_app (goodIn_of _ (by decide +kernel)) ggX1_learnEvent_X1_versionOf
set_option maxRecDepth 20000 in
theorem ggX1_learnEvent_X1_learns : GoodIn wsX1_learnEvent wsX1_learns := goodIn_r _ [26, 27, 28, 29, 30, 3, 31, 12, 32, 33, 34, 35, 36, 37, 38, 39, 40, 41, 42, 43, 44] (by decide +kernel) (by decide +kernel)
set_option maxRecDepth 20000 in
theorem gX1_learnEvent_X1_learns : GoodIn wsX1_learnEvent (wsV RX1 85 RX1 yX1_learns wsX1_learns) := goodIn_app (goodIn_of _ (by decide +kernel)) ggX1_learnEvent_X1_learns
theorem dX1_learnEvent_0 : decode cX1_learnEvent 0 = .ok (.aload_n 0, 1) := by decide +kernel
theorem dX1_learnEvent_1 : decode cX1_learnEvent 1 = .ok (.iload_n 1, 1) := by decide +kernel
theorem dX1_learnEvent_2 : decode cX1_learnEvent 2 = .ok (.invokestatic 56, 3) := by decide +kernel
theorem dX1_learnEvent_5 : decode cX1_learnEvent 5 = .ok (.ifCond .eq 15, 3) := by decide +kernel
theorem dX1_learnEvent_8 : decode cX1_learnEvent 8 = .ok (.aload_n 0, 1) := by decide +kernel
theorem dX1_learnEvent_9 : decode cX1_learnEvent 9 = .ok (.iload_n 2, 1) := by decide +kernel
theorem dX1_learnEvent_10 : decode cX1_learnEvent 10 = .ok (.invokevirtual 89, 3) := by decide +kernel
theorem dX1_learnEvent_13 : decode cX1_learnEvent 13 = .ok (.ifCond .eq 7, 3) := by decide +kernel
theorem dX1_learnEvent_16 : decode cX1_learnEvent 16 = .ok (.iconst 1, 1) := by decide +kernel
theorem dX1_learnEvent_17 : decode cX1_learnEvent 17 = .ok (.goto 4, 3) := by decide +kernel
theorem dX1_learnEvent_20 : decode cX1_learnEvent 20 = .ok (.iconst 0, 1) := by decide +kernel
theorem dX1_learnEvent_21 : decode cX1_learnEvent 21 = .ok (.invokevirtual 82, 3) := by decide +kernel
theorem dX1_learnEvent_24 : decode cX1_learnEvent 24 = .ok (.ifCond .eq 16, 3) := by decide +kernel
theorem dX1_learnEvent_27 : decode cX1_learnEvent 27 = .ok (.aload_n 0, 1) := by decide +kernel
theorem dX1_learnEvent_28 : decode cX1_learnEvent 28 = .ok (.iload_n 1, 1) := by decide +kernel
theorem dX1_learnEvent_29 : decode cX1_learnEvent 29 = .ok (.aload_n 0, 1) := by decide +kernel
theorem dX1_learnEvent_30 : decode cX1_learnEvent 30 = .ok (.iload_n 2, 1) := by decide +kernel
theorem dX1_learnEvent_31 : decode cX1_learnEvent 31 = .ok (.invokevirtual 92, 3) := by decide +kernel
theorem dX1_learnEvent_34 : decode cX1_learnEvent 34 = .ok (.invokevirtual 85, 3) := by decide +kernel
theorem dX1_learnEvent_37 : decode cX1_learnEvent 37 = .ok (.goto 4, 3) := by decide +kernel
theorem dX1_learnEvent_40 : decode cX1_learnEvent 40 = .ok (.iconst 0, 1) := by decide +kernel
theorem dX1_learnEvent_41 : decode cX1_learnEvent 41 = .ok (.ireturn, 1) := by decide +kernel
theorem dX1_events_0 : decode cX1_events 0 = .ok (.aload_n 0, 1) := by decide +kernel
theorem dX1_events_1 : decode cX1_events 1 = .ok (.iconst 0, 1) := by decide +kernel
theorem dX1_events_2 : decode cX1_events 2 = .ok (.putfield 32, 3) := by decide +kernel
theorem dX1_events_5 : decode cX1_events 5 = .ok (.aload_n 0, 1) := by decide +kernel
theorem dX1_events_6 : decode cX1_events 6 = .ok (.getfield 40, 3) := by decide +kernel
theorem dX1_events_9 : decode cX1_events 9 = .ok (.ireturn, 1) := by decide +kernel
set_option maxRecDepth 20000 in
theorem ggX1_length_X1_looks : GoodIn wsX1_length wsX1_looks := goodIn_r _ [6, 7, 8, 9, 5, 10, 11, 12, 13, 14, 15, 16, 17, 1, 18, 19, 20, 21, 22, 23, 24, 30, 31, 32, 33, 34, 35, 36, 37, 38, 39] (by decide +kernel) (by decide +kernel)
set_option maxRecDepth 20000 in
theorem gX1_length_X1_looks : GoodIn wsX1_length (wsV RX1 64 RX1 yX1_looks wsX1_looks) := goodIn_app (goodIn_of _ (by decide +kernel)) ggX1_length_X1_looks
set_option maxRecDepth 20000 in
theorem ggX1_length_X1_asked : GoodIn wsX1_length wsX1_asked := goodIn_r _ [28, 29, 30, 31, 32, 33, 34, 35, 36, 37, 38, 39] (by decide +kernel) (by decide +kernel)
set_option maxRecDepth 20000 in
theorem gX1_length_X1_asked : GoodIn wsX1_length (wsV RX1 82 RX1 yX1_asked wsX1_asked) := goodIn_app (goodIn_of _ (by decide +kernel)) ggX1_length_X1_asked
theorem dX1_length_0 : decode cX1_length 0 = .ok (.aload_n 0, 1) := by decide +kernel
theorem dX1_length_1 : decode cX1_length 1 = .ok (.aload_n 0, 1) := by decide +kernel
theorem dX1_length_2 : decode cX1_length 2 = .ok (.iload_n 1, 1) := by decide +kernel
theorem dX1_length_3 : decode cX1_length 3 = .ok (.invokevirtual 64, 3) := by decide +kernel
theorem dX1_length_6 : decode cX1_length 6 = .ok (.invokevirtual 82, 3) := by decide +kernel
theorem dX1_length_9 : decode cX1_length 9 = .ok (.ifCond .eq 10, 3) := by decide +kernel
theorem dX1_length_12 : decode cX1_length 12 = .ok (.aload_n 0, 1) := by decide +kernel
theorem dX1_length_13 : decode cX1_length 13 = .ok (.getfield 49, 3) := by decide +kernel
theorem dX1_length_16 : decode cX1_length 16 = .ok (.goto 4, 3) := by decide +kernel
theorem dX1_length_19 : decode cX1_length 19 = .ok (.iconst 0, 1) := by decide +kernel
theorem dX1_length_20 : decode cX1_length 20 = .ok (.ireturn, 1) := by decide +kernel
set_option maxRecDepth 20000 in
theorem ggX1_letterAt_X1_looks : GoodIn wsX1_letterAt wsX1_looks := goodIn_r _ [8, 9, 10, 11, 7, 12, 13, 14, 15, 16, 17, 18, 19, 1, 20, 2, 21, 3, 22, 23, 24, 30, 31, 32, 33, 34, 35, 36, 37, 38, 39] (by decide +kernel) (by decide +kernel)
set_option maxRecDepth 20000 in
theorem gX1_letterAt_X1_looks : GoodIn wsX1_letterAt (wsV RX1 64 RX1 yX1_looks wsX1_looks) := goodIn_app (goodIn_of _ (by decide +kernel)) ggX1_letterAt_X1_looks
set_option maxRecDepth 20000 in
theorem ggX1_letterAt_X1_in : GoodIn wsX1_letterAt wsX1_in := goodIn_r _ [15] (by decide +kernel) (by decide +kernel)
set_option maxRecDepth 20000 in
theorem gX1_letterAt_X1_in : GoodIn wsX1_letterAt (va_wsS RX1 36 yX1_in wsX1_in) := goodIn_app (goodIn_of _ (by decide +kernel)) ggX1_letterAt_X1_in
set_option maxRecDepth 20000 in
theorem ggX1_letterAt_X1_asked : GoodIn wsX1_letterAt wsX1_asked := goodIn_r _ [28, 29, 30, 31, 32, 33, 34, 35, 36, 37, 38, 39] (by decide +kernel) (by decide +kernel)
set_option maxRecDepth 20000 in
theorem gX1_letterAt_X1_asked : GoodIn wsX1_letterAt (wsV RX1 82 RX1 yX1_asked wsX1_asked) := goodIn_app (goodIn_of _ (by decide +kernel)) ggX1_letterAt_X1_asked
theorem dX1_letterAt_0 : decode cX1_letterAt 0 = .ok (.aload_n 0, 1) := by decide +kernel
theorem dX1_letterAt_1 : decode cX1_letterAt 1 = .ok (.aload_n 0, 1) := by decide +kernel
theorem dX1_letterAt_2 : decode cX1_letterAt 2 = .ok (.iload_n 1, 1) := by decide +kernel
theorem dX1_letterAt_3 : decode cX1_letterAt 3 = .ok (.invokevirtual 64, 3) := by decide +kernel
theorem dX1_letterAt_6 : decode cX1_letterAt 6 = .ok (.ifCond .eq 21, 3) := by decide +kernel
theorem dX1_letterAt_9 : decode cX1_letterAt 9 = .ok (.iload_n 2, 1) := by decide +kernel
theorem dX1_letterAt_10 : decode cX1_letterAt 10 = .ok (.iconst 0, 1) := by decide +kernel
theorem dX1_letterAt_11 : decode cX1_letterAt 11 = .ok (.aload_n 0, 1) := by decide +kernel
theorem dX1_letterAt_12 : decode cX1_letterAt 12 = .ok (.getfield 49, 3) := by decide +kernel
theorem dX1_letterAt_15 : decode cX1_letterAt 15 = .ok (.iconst 1, 1) := by decide +kernel
theorem dX1_letterAt_16 : decode cX1_letterAt 16 = .ok (.isub, 1) := by decide +kernel
theorem dX1_letterAt_17 : decode cX1_letterAt 17 = .ok (.invokestatic 36, 3) := by decide +kernel
theorem dX1_letterAt_20 : decode cX1_letterAt 20 = .ok (.ifCond .eq 7, 3) := by decide +kernel
theorem dX1_letterAt_23 : decode cX1_letterAt 23 = .ok (.iconst 1, 1) := by decide +kernel
theorem dX1_letterAt_24 : decode cX1_letterAt 24 = .ok (.goto 4, 3) := by decide +kernel
theorem dX1_letterAt_27 : decode cX1_letterAt 27 = .ok (.iconst 0, 1) := by decide +kernel
theorem dX1_letterAt_28 : decode cX1_letterAt 28 = .ok (.invokevirtual 82, 3) := by decide +kernel
theorem dX1_letterAt_31 : decode cX1_letterAt 31 = .ok (.ifCond .eq 17, 3) := by decide +kernel
theorem dX1_letterAt_34 : decode cX1_letterAt 34 = .ok (.aload_n 0, 1) := by decide +kernel
theorem dX1_letterAt_35 : decode cX1_letterAt 35 = .ok (.getfield 13, 3) := by decide +kernel
theorem dX1_letterAt_38 : decode cX1_letterAt 38 = .ok (.aload_n 0, 1) := by decide +kernel
theorem dX1_letterAt_39 : decode cX1_letterAt 39 = .ok (.getfield 29, 3) := by decide +kernel
theorem dX1_letterAt_42 : decode cX1_letterAt 42 = .ok (.iload_n 2, 1) := by decide +kernel
theorem dX1_letterAt_43 : decode cX1_letterAt 43 = .ok (.iaload, 1) := by decide +kernel
theorem dX1_letterAt_44 : decode cX1_letterAt 44 = .ok (.iaload, 1) := by decide +kernel
theorem dX1_letterAt_45 : decode cX1_letterAt 45 = .ok (.goto 4, 3) := by decide +kernel
theorem dX1_letterAt_48 : decode cX1_letterAt 48 = .ok (.iconst 0, 1) := by decide +kernel
theorem dX1_letterAt_49 : decode cX1_letterAt 49 = .ok (.ireturn, 1) := by decide +kernel
set_option maxRecDepth 20000 in
theorem ggX1_letterByList_X1_letterAt : GoodIn wsX1_letterByList wsX1_letterAt := goodIn_r _ [5, 6, 7, 8, 9, 10, 11, 4, 12, 13, 14, 15, 16, 17, 18, 19, 20, 21, 22, 23, 24, 25, 26, 27, 28, 29, 30, 31, 32, 33, 34, 35, 36, 37, 38, 39, 40, 41, 42, 43] (by decide +kernel) (by decide +kernel)
set_option maxRecDepth 20000 in
theorem gX1_letterByList_X1_letterAt : GoodIn wsX1_letterByList (wsV RX1 96 RX1 yX1_letterAt wsX1_letterAt) := goodIn_app (goodIn_of _ (by decide +kernel)) ggX1_letterByList_X1_letterAt
theorem dX1_letterByList_0 : decode cX1_letterByList 0 = .ok (.aload_n 0, 1) := by decide +kernel
theorem dX1_letterByList_1 : decode cX1_letterByList 1 = .ok (.iload_n 1, 1) := by decide +kernel
theorem dX1_letterByList_2 : decode cX1_letterByList 2 = .ok (.iload_n 2, 1) := by decide +kernel
theorem dX1_letterByList_3 : decode cX1_letterByList 3 = .ok (.invokevirtual 96, 3) := by decide +kernel
theorem dX1_letterByList_6 : decode cX1_letterByList 6 = .ok (.ireturn, 1) := by decide +kernel
set_option maxRecDepth 20000 in
theorem ggX1_eventAt_X1_looks : GoodIn wsX1_eventAt wsX1_looks := goodIn_r _ [7, 8, 9, 10, 6, 11, 12, 13, 14, 15, 16, 17, 18, 1, 19, 20, 21, 2, 22, 23, 24, 30, 31, 32, 33, 34, 35, 36, 37, 38, 39] (by decide +kernel) (by decide +kernel)
set_option maxRecDepth 20000 in
theorem gX1_eventAt_X1_looks : GoodIn wsX1_eventAt (wsV RX1 64 RX1 yX1_looks wsX1_looks) := goodIn_app (goodIn_of _ (by decide +kernel)) ggX1_eventAt_X1_looks
set_option maxRecDepth 20000 in
theorem ggX1_eventAt_X1_in : GoodIn wsX1_eventAt wsX1_in := goodIn_r _ [14] (by decide +kernel) (by decide +kernel)
set_option maxRecDepth 20000 in
theorem gX1_eventAt_X1_in : GoodIn wsX1_eventAt (va_wsS RX1 36 yX1_in wsX1_in) := goodIn_app (goodIn_of _ (by decide +kernel)) ggX1_eventAt_X1_in
set_option maxRecDepth 20000 in
theorem ggX1_eventAt_X1_asked : GoodIn wsX1_eventAt wsX1_asked := goodIn_r _ [28, 29, 30, 31, 32, 33, 34, 35, 36, 37, 38, 39] (by decide +kernel) (by decide +kernel)
set_option maxRecDepth 20000 in
theorem gX1_eventAt_X1_asked : GoodIn wsX1_eventAt (wsV RX1 82 RX1 yX1_asked wsX1_asked) := goodIn_app (goodIn_of _ (by decide +kernel)) ggX1_eventAt_X1_asked
theorem dX1_eventAt_0 : decode cX1_eventAt 0 = .ok (.aload_n 0, 1) := by decide +kernel
theorem dX1_eventAt_1 : decode cX1_eventAt 1 = .ok (.aload_n 0, 1) := by decide +kernel
theorem dX1_eventAt_2 : decode cX1_eventAt 2 = .ok (.iload_n 1, 1) := by decide +kernel
theorem dX1_eventAt_3 : decode cX1_eventAt 3 = .ok (.invokevirtual 64, 3) := by decide +kernel
theorem dX1_eventAt_6 : decode cX1_eventAt 6 = .ok (.ifCond .eq 21, 3) := by decide +kernel
theorem dX1_eventAt_9 : decode cX1_eventAt 9 = .ok (.iload_n 2, 1) := by decide +kernel
theorem dX1_eventAt_10 : decode cX1_eventAt 10 = .ok (.iconst 0, 1) := by decide +kernel
theorem dX1_eventAt_11 : decode cX1_eventAt 11 = .ok (.aload_n 0, 1) := by decide +kernel
theorem dX1_eventAt_12 : decode cX1_eventAt 12 = .ok (.getfield 49, 3) := by decide +kernel
theorem dX1_eventAt_15 : decode cX1_eventAt 15 = .ok (.iconst 1, 1) := by decide +kernel
theorem dX1_eventAt_16 : decode cX1_eventAt 16 = .ok (.isub, 1) := by decide +kernel
theorem dX1_eventAt_17 : decode cX1_eventAt 17 = .ok (.invokestatic 36, 3) := by decide +kernel
theorem dX1_eventAt_20 : decode cX1_eventAt 20 = .ok (.ifCond .eq 7, 3) := by decide +kernel
theorem dX1_eventAt_23 : decode cX1_eventAt 23 = .ok (.iconst 1, 1) := by decide +kernel
theorem dX1_eventAt_24 : decode cX1_eventAt 24 = .ok (.goto 4, 3) := by decide +kernel
theorem dX1_eventAt_27 : decode cX1_eventAt 27 = .ok (.iconst 0, 1) := by decide +kernel
theorem dX1_eventAt_28 : decode cX1_eventAt 28 = .ok (.invokevirtual 82, 3) := by decide +kernel
theorem dX1_eventAt_31 : decode cX1_eventAt 31 = .ok (.ifCond .eq 12, 3) := by decide +kernel
theorem dX1_eventAt_34 : decode cX1_eventAt 34 = .ok (.aload_n 0, 1) := by decide +kernel
theorem dX1_eventAt_35 : decode cX1_eventAt 35 = .ok (.getfield 29, 3) := by decide +kernel
theorem dX1_eventAt_38 : decode cX1_eventAt 38 = .ok (.iload_n 2, 1) := by decide +kernel
theorem dX1_eventAt_39 : decode cX1_eventAt 39 = .ok (.iaload, 1) := by decide +kernel
theorem dX1_eventAt_40 : decode cX1_eventAt 40 = .ok (.goto 4, 3) := by decide +kernel
theorem dX1_eventAt_43 : decode cX1_eventAt 43 = .ok (.iconst 0, 1) := by decide +kernel
theorem dX1_eventAt_44 : decode cX1_eventAt 44 = .ok (.ireturn, 1) := by decide +kernel
set_option maxRecDepth 20000 in
theorem ggX1_looksAt_X1_isEvent : GoodIn wsX1_looksAt wsX1_isEvent := goodIn_r _ [5, 6, 7, 8, 4, 9, 26, 27, 28, 29, 30, 31, 32, 33, 34, 35] (by decide +kernel) (by decide +kernel)
set_option maxRecDepth 20000 in
theorem gX1_looksAt_X1_isEvent : GoodIn wsX1_looksAt (wsV RX1 89 RX1 yX1_isEvent wsX1_isEvent) := goodIn_app (goodIn_of _ (by decide +kernel)) ggX1_looksAt_X1_isEvent
set_option maxRecDepth 20000 in
theorem ggX1_looksAt_X1_versionOf : GoodIn wsX1_looksAt wsX1_versionOf := goodIn_r _ [13, 14, 26, 27, 28, 29, 30, 31, 32, 33, 34, 35] (by decide +kernel) (by decide +kernel)
set_option maxRecDepth 20000 in
theorem gX1_looksAt_X1_versionOf : GoodIn wsX1_looksAt (wsV RX1 92 RX1 yX1_versionOf wsX1_versionOf) := goodIn_app (goodIn_of _ (by decide +kernel)) ggX1_looksAt_X1_versionOf
set_option maxRecDepth 20000 in
theorem ggX1_looksAt_X1_reads : GoodIn wsX1_looksAt wsX1_reads := goodIn_r _ [18, 19, 6, 20, 21, 22, 23, 24, 4, 25, 26, 27, 28, 29, 30, 31, 32, 33, 34, 35] (by decide +kernel) (by decide +kernel)
set_option maxRecDepth 20000 in
theorem gX1_looksAt_X1_reads : GoodIn wsX1_looksAt (wsV RX1 60 RX1 yX1_reads wsX1_reads) := goodIn_app (goodIn_of _ (by decide +kernel)) ggX1_looksAt_X1_reads
theorem dX1_looksAt_0 : decode cX1_looksAt 0 = .ok (.aload_n 0, 1) := by decide +kernel
theorem dX1_looksAt_1 : decode cX1_looksAt 1 = .ok (.iload_n 1, 1) := by decide +kernel
theorem dX1_looksAt_2 : decode cX1_looksAt 2 = .ok (.invokevirtual 89, 3) := by decide +kernel
theorem dX1_looksAt_5 : decode cX1_looksAt 5 = .ok (.istore_n 2, 1) := by decide +kernel
theorem dX1_looksAt_6 : decode cX1_looksAt 6 = .ok (.iload_n 2, 1) := by decide +kernel
theorem dX1_looksAt_7 : decode cX1_looksAt 7 = .ok (.ifCond .eq 12, 3) := by decide +kernel
theorem dX1_looksAt_10 : decode cX1_looksAt 10 = .ok (.aload_n 0, 1) := by decide +kernel
theorem dX1_looksAt_11 : decode cX1_looksAt 11 = .ok (.aload_n 0, 1) := by decide +kernel
theorem dX1_looksAt_12 : decode cX1_looksAt 12 = .ok (.iload_n 1, 1) := by decide +kernel
theorem dX1_looksAt_13 : decode cX1_looksAt 13 = .ok (.invokevirtual 92, 3) := by decide +kernel
theorem dX1_looksAt_16 : decode cX1_looksAt 16 = .ok (.invokevirtual 60, 3) := by decide +kernel
theorem dX1_looksAt_19 : decode cX1_looksAt 19 = .ok (.iload_n 2, 1) := by decide +kernel
theorem dX1_looksAt_20 : decode cX1_looksAt 20 = .ok (.ireturn, 1) := by decide +kernel
set_option maxRecDepth 20000 in
theorem ggX1_lengthOf_X1_looksAt : GoodIn wsX1_lengthOf wsX1_looksAt := goodIn_r _ [6, 7, 8, 9, 5, 10, 11, 12, 13, 14, 15, 16, 17, 18, 19, 20, 21, 22, 23, 1, 24, 25, 26, 27, 28, 29, 35, 36, 37, 38, 39, 40, 41, 42, 43, 44] (by decide +kernel) (by decide +kernel)
set_option maxRecDepth 20000 in
theorem gX1_lengthOf_X1_looksAt : GoodIn wsX1_lengthOf (wsV RX1 100 RX1 yX1_looksAt wsX1_looksAt) := goodIn_app (goodIn_of _ (by decide +kernel)) ggX1_lengthOf_X1_looksAt
set_option maxRecDepth 20000 in
theorem ggX1_lengthOf_X1_asked : GoodIn wsX1_lengthOf wsX1_asked := goodIn_r _ [33, 34, 35, 36, 37, 38, 39, 40, 41, 42, 43, 44] (by decide +kernel) (by decide +kernel)
set_option maxRecDepth 20000 in
theorem gX1_lengthOf_X1_asked : GoodIn wsX1_lengthOf (wsV RX1 82 RX1 yX1_asked wsX1_asked) := goodIn_app (goodIn_of _ (by decide +kernel)) ggX1_lengthOf_X1_asked
theorem dX1_lengthOf_0 : decode cX1_lengthOf 0 = .ok (.aload_n 0, 1) := by decide +kernel
theorem dX1_lengthOf_1 : decode cX1_lengthOf 1 = .ok (.aload_n 0, 1) := by decide +kernel
theorem dX1_lengthOf_2 : decode cX1_lengthOf 2 = .ok (.iload_n 1, 1) := by decide +kernel
theorem dX1_lengthOf_3 : decode cX1_lengthOf 3 = .ok (.invokevirtual 100, 3) := by decide +kernel
theorem dX1_lengthOf_6 : decode cX1_lengthOf 6 = .ok (.invokevirtual 82, 3) := by decide +kernel
theorem dX1_lengthOf_9 : decode cX1_lengthOf 9 = .ok (.ifCond .eq 10, 3) := by decide +kernel
theorem dX1_lengthOf_12 : decode cX1_lengthOf 12 = .ok (.aload_n 0, 1) := by decide +kernel
theorem dX1_lengthOf_13 : decode cX1_lengthOf 13 = .ok (.getfield 49, 3) := by decide +kernel
theorem dX1_lengthOf_16 : decode cX1_lengthOf 16 = .ok (.goto 4, 3) := by decide +kernel
theorem dX1_lengthOf_19 : decode cX1_lengthOf 19 = .ok (.iconst 0, 1) := by decide +kernel
theorem dX1_lengthOf_20 : decode cX1_lengthOf 20 = .ok (.ireturn, 1) := by decide +kernel
set_option maxRecDepth 20000 in
theorem ggX1_letterOf_X1_looksAt : GoodIn wsX1_letterOf wsX1_looksAt := goodIn_r _ [8, 9, 10, 11, 7, 12, 13, 14, 15, 16, 17, 18, 19, 20, 21, 22, 23, 24, 25, 1, 2, 26, 3, 27, 28, 29, 35, 36, 37, 38, 39, 40, 41, 42, 43, 44] (by decide +kernel) (by decide +kernel)
set_option maxRecDepth 20000 in
theorem gX1_letterOf_X1_looksAt : GoodIn wsX1_letterOf (wsV RX1 100 RX1 yX1_looksAt wsX1_looksAt) := goodIn_app (goodIn_of _ (by decide +kernel)) ggX1_letterOf_X1_looksAt
set_option maxRecDepth 20000 in
theorem ggX1_letterOf_X1_in : GoodIn wsX1_letterOf wsX1_in := goodIn_r _ [16] (by decide +kernel) (by decide +kernel)
set_option maxRecDepth 20000 in
theorem gX1_letterOf_X1_in : GoodIn wsX1_letterOf (va_wsS RX1 36 yX1_in wsX1_in) := goodIn_app (goodIn_of _ (by decide +kernel)) ggX1_letterOf_X1_in
set_option maxRecDepth 20000 in
theorem ggX1_letterOf_X1_asked : GoodIn wsX1_letterOf wsX1_asked := goodIn_r _ [33, 34, 35, 36, 37, 38, 39, 40, 41, 42, 43, 44] (by decide +kernel) (by decide +kernel)
set_option maxRecDepth 20000 in
theorem gX1_letterOf_X1_asked : GoodIn wsX1_letterOf (wsV RX1 82 RX1 yX1_asked wsX1_asked) := goodIn_app (goodIn_of _ (by decide +kernel)) ggX1_letterOf_X1_asked
theorem dX1_letterOf_0 : decode cX1_letterOf 0 = .ok (.aload_n 0, 1) := by decide +kernel
theorem dX1_letterOf_1 : decode cX1_letterOf 1 = .ok (.aload_n 0, 1) := by decide +kernel
theorem dX1_letterOf_2 : decode cX1_letterOf 2 = .ok (.iload_n 1, 1) := by decide +kernel
theorem dX1_letterOf_3 : decode cX1_letterOf 3 = .ok (.invokevirtual 100, 3) := by decide +kernel
theorem dX1_letterOf_6 : decode cX1_letterOf 6 = .ok (.ifCond .eq 21, 3) := by decide +kernel
theorem dX1_letterOf_9 : decode cX1_letterOf 9 = .ok (.iload_n 2, 1) := by decide +kernel
theorem dX1_letterOf_10 : decode cX1_letterOf 10 = .ok (.iconst 0, 1) := by decide +kernel
theorem dX1_letterOf_11 : decode cX1_letterOf 11 = .ok (.aload_n 0, 1) := by decide +kernel
theorem dX1_letterOf_12 : decode cX1_letterOf 12 = .ok (.getfield 49, 3) := by decide +kernel
theorem dX1_letterOf_15 : decode cX1_letterOf 15 = .ok (.iconst 1, 1) := by decide +kernel
theorem dX1_letterOf_16 : decode cX1_letterOf 16 = .ok (.isub, 1) := by decide +kernel
theorem dX1_letterOf_17 : decode cX1_letterOf 17 = .ok (.invokestatic 36, 3) := by decide +kernel
theorem dX1_letterOf_20 : decode cX1_letterOf 20 = .ok (.ifCond .eq 7, 3) := by decide +kernel
theorem dX1_letterOf_23 : decode cX1_letterOf 23 = .ok (.iconst 1, 1) := by decide +kernel
theorem dX1_letterOf_24 : decode cX1_letterOf 24 = .ok (.goto 4, 3) := by decide +kernel
theorem dX1_letterOf_27 : decode cX1_letterOf 27 = .ok (.iconst 0, 1) := by decide +kernel
theorem dX1_letterOf_28 : decode cX1_letterOf 28 = .ok (.invokevirtual 82, 3) := by decide +kernel
theorem dX1_letterOf_31 : decode cX1_letterOf 31 = .ok (.ifCond .eq 17, 3) := by decide +kernel
theorem dX1_letterOf_34 : decode cX1_letterOf 34 = .ok (.aload_n 0, 1) := by decide +kernel
theorem dX1_letterOf_35 : decode cX1_letterOf 35 = .ok (.getfield 13, 3) := by decide +kernel
theorem dX1_letterOf_38 : decode cX1_letterOf 38 = .ok (.aload_n 0, 1) := by decide +kernel
theorem dX1_letterOf_39 : decode cX1_letterOf 39 = .ok (.getfield 29, 3) := by decide +kernel
theorem dX1_letterOf_42 : decode cX1_letterOf 42 = .ok (.iload_n 2, 1) := by decide +kernel
theorem dX1_letterOf_43 : decode cX1_letterOf 43 = .ok (.iaload, 1) := by decide +kernel
theorem dX1_letterOf_44 : decode cX1_letterOf 44 = .ok (.iaload, 1) := by decide +kernel
theorem dX1_letterOf_45 : decode cX1_letterOf 45 = .ok (.goto 4, 3) := by decide +kernel
theorem dX1_letterOf_48 : decode cX1_letterOf 48 = .ok (.iconst 0, 1) := by decide +kernel
theorem dX1_letterOf_49 : decode cX1_letterOf 49 = .ok (.ireturn, 1) := by decide +kernel
set_option maxRecDepth 20000 in
theorem ggX1_lettersBy_X1_isAuthor : GoodIn wsX1_lettersBy wsX1_isAuthor := goodIn_r _ [8, 9, 10, 7, 11] (by decide +kernel) (by decide +kernel)
set_option maxRecDepth 20000 in
theorem gX1_lettersBy_X1_isAuthor : GoodIn wsX1_lettersBy (va_wsS RX1 56 yX1_isAuthor wsX1_isAuthor) := goodIn_app (goodIn_of _ (by decide +kernel)) ggX1_lettersBy_X1_isAuthor
set_option maxRecDepth 20000 in
theorem ggX1_lettersBy_X1_asked : GoodIn wsX1_lettersBy wsX1_asked := goodIn_r _ [15, 16, 27, 28, 29, 30, 31, 32, 33, 34, 35, 36] (by decide +kernel) (by decide +kernel)
set_option maxRecDepth 20000 in
theorem gX1_lettersBy_X1_asked : GoodIn wsX1_lettersBy (wsV RX1 82 RX1 yX1_asked wsX1_asked) := goodIn_app (goodIn_of _ (by decide +kernel)) ggX1_lettersBy_X1_asked
set_option maxRecDepth 20000 in
theorem ggX1_lettersBy_X1_reads : GoodIn wsX1_lettersBy wsX1_reads := goodIn_r _ [20, 2, 21, 22, 23, 4, 24, 25, 7, 26, 27, 28, 29, 30, 31, 32, 33, 34, 35, 36] (by decide +kernel) (by decide +kernel)
set_option maxRecDepth 20000 in
theorem gX1_lettersBy_X1_reads : GoodIn wsX1_lettersBy (wsV RX1 60 RX1 yX1_reads wsX1_reads) := goodIn_app (goodIn_of _ (by decide +kernel)) ggX1_lettersBy_X1_reads
theorem dX1_lettersBy_0 : decode cX1_lettersBy 0 = .ok (.iconst 0, 1) := by decide +kernel
theorem dX1_lettersBy_1 : decode cX1_lettersBy 1 = .ok (.istore_n 3, 1) := by decide +kernel
theorem dX1_lettersBy_2 : decode cX1_lettersBy 2 = .ok (.aload_n 0, 1) := by decide +kernel
theorem dX1_lettersBy_3 : decode cX1_lettersBy 3 = .ok (.iload_n 1, 1) := by decide +kernel
theorem dX1_lettersBy_4 : decode cX1_lettersBy 4 = .ok (.invokestatic 56, 3) := by decide +kernel
theorem dX1_lettersBy_7 : decode cX1_lettersBy 7 = .ok (.ifCond .eq 14, 3) := by decide +kernel
theorem dX1_lettersBy_10 : decode cX1_lettersBy 10 = .ok (.iload_n 2, 1) := by decide +kernel
theorem dX1_lettersBy_11 : decode cX1_lettersBy 11 = .ok (.invokestatic 56, 3) := by decide +kernel
theorem dX1_lettersBy_14 : decode cX1_lettersBy 14 = .ok (.ifCond .eq 7, 3) := by decide +kernel
theorem dX1_lettersBy_17 : decode cX1_lettersBy 17 = .ok (.iconst 1, 1) := by decide +kernel
theorem dX1_lettersBy_18 : decode cX1_lettersBy 18 = .ok (.goto 4, 3) := by decide +kernel
theorem dX1_lettersBy_21 : decode cX1_lettersBy 21 = .ok (.iconst 0, 1) := by decide +kernel
theorem dX1_lettersBy_22 : decode cX1_lettersBy 22 = .ok (.invokevirtual 82, 3) := by decide +kernel
theorem dX1_lettersBy_25 : decode cX1_lettersBy 25 = .ok (.istore 4, 2) := by decide +kernel
theorem dX1_lettersBy_27 : decode cX1_lettersBy 27 = .ok (.iload 4, 2) := by decide +kernel
theorem dX1_lettersBy_29 : decode cX1_lettersBy 29 = .ok (.ifCond .eq 13, 3) := by decide +kernel
theorem dX1_lettersBy_32 : decode cX1_lettersBy 32 = .ok (.aload_n 0, 1) := by decide +kernel
theorem dX1_lettersBy_33 : decode cX1_lettersBy 33 = .ok (.aload_n 0, 1) := by decide +kernel
theorem dX1_lettersBy_34 : decode cX1_lettersBy 34 = .ok (.getfield 26, 3) := by decide +kernel
theorem dX1_lettersBy_37 : decode cX1_lettersBy 37 = .ok (.iload_n 1, 1) := by decide +kernel
theorem dX1_lettersBy_38 : decode cX1_lettersBy 38 = .ok (.laload, 1) := by decide +kernel
theorem dX1_lettersBy_39 : decode cX1_lettersBy 39 = .ok (.invokevirtual 60, 3) := by decide +kernel
theorem dX1_lettersBy_42 : decode cX1_lettersBy 42 = .ok (.iconst 0, 1) := by decide +kernel
theorem dX1_lettersBy_43 : decode cX1_lettersBy 43 = .ok (.istore 5, 2) := by decide +kernel
theorem dX1_lettersBy_45 : decode cX1_lettersBy 45 = .ok (.iload 4, 2) := by decide +kernel
theorem dX1_lettersBy_47 : decode cX1_lettersBy 47 = .ok (.ifCond .eq 42, 3) := by decide +kernel
theorem dX1_lettersBy_50 : decode cX1_lettersBy 50 = .ok (.iload 5, 2) := by decide +kernel
theorem dX1_lettersBy_52 : decode cX1_lettersBy 52 = .ok (.aload_n 0, 1) := by decide +kernel
theorem dX1_lettersBy_53 : decode cX1_lettersBy 53 = .ok (.getfield 49, 3) := by decide +kernel
theorem dX1_lettersBy_56 : decode cX1_lettersBy 56 = .ok (.if_icmp .ge 33, 3) := by decide +kernel
theorem dX1_lettersBy_59 : decode cX1_lettersBy 59 = .ok (.iload_n 3, 1) := by decide +kernel
theorem dX1_lettersBy_60 : decode cX1_lettersBy 60 = .ok (.aload_n 0, 1) := by decide +kernel
theorem dX1_lettersBy_61 : decode cX1_lettersBy 61 = .ok (.getfield 7, 3) := by decide +kernel
theorem dX1_lettersBy_64 : decode cX1_lettersBy 64 = .ok (.aload_n 0, 1) := by decide +kernel
theorem dX1_lettersBy_65 : decode cX1_lettersBy 65 = .ok (.getfield 29, 3) := by decide +kernel
theorem dX1_lettersBy_68 : decode cX1_lettersBy 68 = .ok (.iload 5, 2) := by decide +kernel
theorem dX1_lettersBy_70 : decode cX1_lettersBy 70 = .ok (.iaload, 1) := by decide +kernel
theorem dX1_lettersBy_71 : decode cX1_lettersBy 71 = .ok (.iaload, 1) := by decide +kernel
theorem dX1_lettersBy_72 : decode cX1_lettersBy 72 = .ok (.iload_n 2, 1) := by decide +kernel
theorem dX1_lettersBy_73 : decode cX1_lettersBy 73 = .ok (.if_icmp .ne 7, 3) := by decide +kernel
theorem dX1_lettersBy_76 : decode cX1_lettersBy 76 = .ok (.iconst 1, 1) := by decide +kernel
theorem dX1_lettersBy_77 : decode cX1_lettersBy 77 = .ok (.goto 4, 3) := by decide +kernel
theorem dX1_lettersBy_80 : decode cX1_lettersBy 80 = .ok (.iconst 0, 1) := by decide +kernel
theorem dX1_lettersBy_81 : decode cX1_lettersBy 81 = .ok (.iadd, 1) := by decide +kernel
theorem dX1_lettersBy_82 : decode cX1_lettersBy 82 = .ok (.istore_n 3, 1) := by decide +kernel
theorem dX1_lettersBy_83 : decode cX1_lettersBy 83 = .ok (.iinc 5 1, 3) := by decide +kernel
theorem dX1_lettersBy_86 : decode cX1_lettersBy 86 = .ok (.goto (-41), 3) := by decide +kernel
theorem dX1_lettersBy_89 : decode cX1_lettersBy 89 = .ok (.iload_n 3, 1) := by decide +kernel
theorem dX1_lettersBy_90 : decode cX1_lettersBy 90 = .ok (.ireturn, 1) := by decide +kernel
set_option maxRecDepth 20000 in
theorem ggX1_authorOf_X1_isEvent : GoodIn wsX1_authorOf wsX1_isEvent := goodIn_r _ [6, 7, 8, 9, 5, 10, 16, 17, 18, 19, 20, 21, 22, 23, 24, 25] (by decide +kernel) (by decide +kernel)
set_option maxRecDepth 20000 in
theorem gX1_authorOf_X1_isEvent : GoodIn wsX1_authorOf (wsV RX1 89 RX1 yX1_isEvent wsX1_isEvent) := goodIn_app (goodIn_of _ (by decide +kernel)) ggX1_authorOf_X1_isEvent
set_option maxRecDepth 20000 in
theorem ggX1_authorOf_X1_asked : GoodIn wsX1_authorOf wsX1_asked := goodIn_r _ [14, 15, 16, 17, 18, 19, 20, 21, 22, 23, 24, 25] (by decide +kernel) (by decide +kernel)
set_option maxRecDepth 20000 in
theorem gX1_authorOf_X1_asked : GoodIn wsX1_authorOf (wsV RX1 82 RX1 yX1_asked wsX1_asked) := goodIn_app (goodIn_of _ (by decide +kernel)) ggX1_authorOf_X1_asked
theorem dX1_authorOf_0 : decode cX1_authorOf 0 = .ok (.aload_n 0, 1) := by decide +kernel
theorem dX1_authorOf_1 : decode cX1_authorOf 1 = .ok (.aload_n 0, 1) := by decide +kernel
theorem dX1_authorOf_2 : decode cX1_authorOf 2 = .ok (.iload_n 1, 1) := by decide +kernel
theorem dX1_authorOf_3 : decode cX1_authorOf 3 = .ok (.invokevirtual 89, 3) := by decide +kernel
theorem dX1_authorOf_6 : decode cX1_authorOf 6 = .ok (.invokevirtual 82, 3) := by decide +kernel
theorem dX1_authorOf_9 : decode cX1_authorOf 9 = .ok (.ifCond .eq 12, 3) := by decide +kernel
theorem dX1_authorOf_12 : decode cX1_authorOf 12 = .ok (.aload_n 0, 1) := by decide +kernel
theorem dX1_authorOf_13 : decode cX1_authorOf 13 = .ok (.getfield 7, 3) := by decide +kernel
theorem dX1_authorOf_16 : decode cX1_authorOf 16 = .ok (.iload_n 1, 1) := by decide +kernel
theorem dX1_authorOf_17 : decode cX1_authorOf 17 = .ok (.iaload, 1) := by decide +kernel
theorem dX1_authorOf_18 : decode cX1_authorOf 18 = .ok (.goto 4, 3) := by decide +kernel
theorem dX1_authorOf_21 : decode cX1_authorOf 21 = .ok (.iconst 0, 1) := by decide +kernel
theorem dX1_authorOf_22 : decode cX1_authorOf 22 = .ok (.ireturn, 1) := by decide +kernel
set_option maxRecDepth 20000 in
theorem ggX1_parents_X1_isEvent : GoodIn wsX1_parents wsX1_isEvent := goodIn_r _ [6, 7, 8, 9, 5, 10, 16, 17, 18, 19, 20, 21, 22, 23, 24, 25] (by decide +kernel) (by decide +kernel)
set_option maxRecDepth 20000 in
theorem gX1_parents_X1_isEvent : GoodIn wsX1_parents (wsV RX1 89 RX1 yX1_isEvent wsX1_isEvent) := goodIn_app (goodIn_of _ (by decide +kernel)) ggX1_parents_X1_isEvent
set_option maxRecDepth 20000 in
theorem ggX1_parents_X1_asked : GoodIn wsX1_parents wsX1_asked := goodIn_r _ [14, 15, 16, 17, 18, 19, 20, 21, 22, 23, 24, 25] (by decide +kernel) (by decide +kernel)
set_option maxRecDepth 20000 in
theorem gX1_parents_X1_asked : GoodIn wsX1_parents (wsV RX1 82 RX1 yX1_asked wsX1_asked) := goodIn_app (goodIn_of _ (by decide +kernel)) ggX1_parents_X1_asked
theorem dX1_parents_0 : decode cX1_parents 0 = .ok (.aload_n 0, 1) := by decide +kernel
theorem dX1_parents_1 : decode cX1_parents 1 = .ok (.aload_n 0, 1) := by decide +kernel
theorem dX1_parents_2 : decode cX1_parents 2 = .ok (.iload_n 1, 1) := by decide +kernel
theorem dX1_parents_3 : decode cX1_parents 3 = .ok (.invokevirtual 89, 3) := by decide +kernel
theorem dX1_parents_6 : decode cX1_parents 6 = .ok (.invokevirtual 82, 3) := by decide +kernel
theorem dX1_parents_9 : decode cX1_parents 9 = .ok (.ifCond .eq 12, 3) := by decide +kernel
theorem dX1_parents_12 : decode cX1_parents 12 = .ok (.aload_n 0, 1) := by decide +kernel
theorem dX1_parents_13 : decode cX1_parents 13 = .ok (.getfield 19, 3) := by decide +kernel
theorem dX1_parents_16 : decode cX1_parents 16 = .ok (.iload_n 1, 1) := by decide +kernel
theorem dX1_parents_17 : decode cX1_parents 17 = .ok (.laload, 1) := by decide +kernel
theorem dX1_parents_18 : decode cX1_parents 18 = .ok (.goto 4, 3) := by decide +kernel
theorem dX1_parents_21 : decode cX1_parents 21 = .ok (.lconst 0, 1) := by decide +kernel
theorem dX1_parents_22 : decode cX1_parents 22 = .ok (.lreturn, 1) := by decide +kernel
set_option maxRecDepth 20000 in
theorem ggX1_isLater_X1_isEvent : GoodIn wsX1_isLater wsX1_isEvent := goodIn_r _ [6, 7, 8, 9, 5, 10, 19, 20, 21, 22, 23, 24, 25, 26, 27, 28] (by decide +kernel) (by decide +kernel)
set_option maxRecDepth 20000 in
theorem gX1_isLater_X1_isEvent : GoodIn wsX1_isLater (wsV RX1 89 RX1 yX1_isEvent wsX1_isEvent) := goodIn_app (goodIn_of _ (by decide +kernel)) ggX1_isLater_X1_isEvent
set_option maxRecDepth 20000 in
theorem ggX1_isLater_X1_asked : GoodIn wsX1_isLater wsX1_asked := goodIn_r _ [14, 15, 19, 20, 21, 22, 23, 24, 25, 26, 27, 28] (by decide +kernel) (by decide +kernel)
set_option maxRecDepth 20000 in
theorem gX1_isLater_X1_asked : GoodIn wsX1_isLater (wsV RX1 82 RX1 yX1_asked wsX1_asked) := goodIn_app (goodIn_of _ (by decide +kernel)) ggX1_isLater_X1_asked
set_option maxRecDepth 20000 in
theorem ggX1_isLater_X1_has : GoodIn wsX1_isLater wsX1_has := goodIn_r _ [18] (by decide +kernel) (by decide +kernel)
set_option maxRecDepth 20000 in
theorem gX1_isLater_X1_has : GoodIn wsX1_isLater (va_wsS RX1 43 yX1_has wsX1_has) := goodIn_app (goodIn_of _ (by decide +kernel)) ggX1_isLater_X1_has
theorem dX1_isLater_0 : decode cX1_isLater 0 = .ok (.aload_n 0, 1) := by decide +kernel
theorem dX1_isLater_1 : decode cX1_isLater 1 = .ok (.aload_n 0, 1) := by decide +kernel
theorem dX1_isLater_2 : decode cX1_isLater 2 = .ok (.iload_n 1, 1) := by decide +kernel
theorem dX1_isLater_3 : decode cX1_isLater 3 = .ok (.invokevirtual 89, 3) := by decide +kernel
theorem dX1_isLater_6 : decode cX1_isLater 6 = .ok (.ifCond .eq 15, 3) := by decide +kernel
theorem dX1_isLater_9 : decode cX1_isLater 9 = .ok (.aload_n 0, 1) := by decide +kernel
theorem dX1_isLater_10 : decode cX1_isLater 10 = .ok (.iload_n 2, 1) := by decide +kernel
theorem dX1_isLater_11 : decode cX1_isLater 11 = .ok (.invokevirtual 89, 3) := by decide +kernel
theorem dX1_isLater_14 : decode cX1_isLater 14 = .ok (.ifCond .eq 7, 3) := by decide +kernel
theorem dX1_isLater_17 : decode cX1_isLater 17 = .ok (.iconst 1, 1) := by decide +kernel
theorem dX1_isLater_18 : decode cX1_isLater 18 = .ok (.goto 4, 3) := by decide +kernel
theorem dX1_isLater_21 : decode cX1_isLater 21 = .ok (.iconst 0, 1) := by decide +kernel
theorem dX1_isLater_22 : decode cX1_isLater 22 = .ok (.invokevirtual 82, 3) := by decide +kernel
theorem dX1_isLater_25 : decode cX1_isLater 25 = .ok (.ifCond .eq 20, 3) := by decide +kernel
theorem dX1_isLater_28 : decode cX1_isLater 28 = .ok (.aload_n 0, 1) := by decide +kernel
theorem dX1_isLater_29 : decode cX1_isLater 29 = .ok (.getfield 23, 3) := by decide +kernel
theorem dX1_isLater_32 : decode cX1_isLater 32 = .ok (.iload_n 1, 1) := by decide +kernel
theorem dX1_isLater_33 : decode cX1_isLater 33 = .ok (.laload, 1) := by decide +kernel
theorem dX1_isLater_34 : decode cX1_isLater 34 = .ok (.iload_n 2, 1) := by decide +kernel
theorem dX1_isLater_35 : decode cX1_isLater 35 = .ok (.invokestatic 43, 3) := by decide +kernel
theorem dX1_isLater_38 : decode cX1_isLater 38 = .ok (.ifCond .eq 7, 3) := by decide +kernel
theorem dX1_isLater_41 : decode cX1_isLater 41 = .ok (.iconst 1, 1) := by decide +kernel
theorem dX1_isLater_42 : decode cX1_isLater 42 = .ok (.goto 4, 3) := by decide +kernel
theorem dX1_isLater_45 : decode cX1_isLater 45 = .ok (.iconst 0, 1) := by decide +kernel
theorem dX1_isLater_46 : decode cX1_isLater 46 = .ok (.ireturn, 1) := by decide +kernel
set_option maxRecDepth 20000 in
theorem ggX1_version_X1_isAuthor : GoodIn wsX1_version wsX1_isAuthor := goodIn_r _ [5, 6, 7, 4, 8] (by decide +kernel) (by decide +kernel)
set_option maxRecDepth 20000 in
theorem gX1_version_X1_isAuthor : GoodIn wsX1_version (va_wsS RX1 56 yX1_isAuthor wsX1_isAuthor) := goodIn_app (goodIn_of _ (by decide +kernel)) ggX1_version_X1_isAuthor
set_option maxRecDepth 20000 in
theorem ggX1_version_X1_asked : GoodIn wsX1_version wsX1_asked := goodIn_r _ [12, 13, 14, 15, 16, 17, 18, 19, 20, 21, 22, 23] (by decide +kernel) (by decide +kernel)
set_option maxRecDepth 20000 in
theorem gX1_version_X1_asked : GoodIn wsX1_version (wsV RX1 82 RX1 yX1_asked wsX1_asked) := goodIn_app (goodIn_of _ (by decide +kernel)) ggX1_version_X1_asked
theorem dX1_version_0 : decode cX1_version 0 = .ok (.aload_n 0, 1) := by decide +kernel
theorem dX1_version_1 : decode cX1_version 1 = .ok (.iload_n 1, 1) := by decide +kernel
theorem dX1_version_2 : decode cX1_version 2 = .ok (.invokestatic 56, 3) := by decide +kernel
theorem dX1_version_5 : decode cX1_version 5 = .ok (.invokevirtual 82, 3) := by decide +kernel
theorem dX1_version_8 : decode cX1_version 8 = .ok (.ifCond .eq 12, 3) := by decide +kernel
theorem dX1_version_11 : decode cX1_version 11 = .ok (.aload_n 0, 1) := by decide +kernel
theorem dX1_version_12 : decode cX1_version 12 = .ok (.getfield 26, 3) := by decide +kernel
theorem dX1_version_15 : decode cX1_version 15 = .ok (.iload_n 1, 1) := by decide +kernel
theorem dX1_version_16 : decode cX1_version 16 = .ok (.laload, 1) := by decide +kernel
theorem dX1_version_17 : decode cX1_version 17 = .ok (.goto 4, 3) := by decide +kernel
theorem dX1_version_20 : decode cX1_version 20 = .ok (.lconst 0, 1) := by decide +kernel
theorem dX1_version_21 : decode cX1_version 21 = .ok (.lreturn, 1) := by decide +kernel
set_option maxRecDepth 20000 in
theorem ggX1_heads_X1_isAuthor : GoodIn wsX1_heads wsX1_isAuthor := goodIn_r _ [5, 6, 7, 4, 8] (by decide +kernel) (by decide +kernel)
set_option maxRecDepth 20000 in
theorem gX1_heads_X1_isAuthor : GoodIn wsX1_heads (va_wsS RX1 56 yX1_isAuthor wsX1_isAuthor) := goodIn_app (goodIn_of _ (by decide +kernel)) ggX1_heads_X1_isAuthor
set_option maxRecDepth 20000 in
theorem ggX1_heads_X1_asked : GoodIn wsX1_heads wsX1_asked := goodIn_r _ [12, 13, 24, 25, 26, 27, 28, 29, 30, 31, 32, 33] (by decide +kernel) (by decide +kernel)
set_option maxRecDepth 20000 in
theorem gX1_heads_X1_asked : GoodIn wsX1_heads (wsV RX1 82 RX1 yX1_asked wsX1_asked) := goodIn_app (goodIn_of _ (by decide +kernel)) ggX1_heads_X1_asked
set_option maxRecDepth 20000 in
theorem ggX1_heads_X1_headsOf : GoodIn wsX1_heads wsX1_headsOf := goodIn_r _ [17, 18, 19, 20, 21, 22, 4, 23, 24, 25, 26, 27, 28, 29, 30, 31, 32, 33] (by decide +kernel) (by decide +kernel)
set_option maxRecDepth 20000 in
theorem gX1_heads_X1_headsOf : GoodIn wsX1_heads (wsV RX1 52 RX1 yX1_headsOf wsX1_headsOf) := goodIn_app (goodIn_of _ (by decide +kernel)) ggX1_heads_X1_headsOf
theorem dX1_heads_0 : decode cX1_heads 0 = .ok (.aload_n 0, 1) := by decide +kernel
theorem dX1_heads_1 : decode cX1_heads 1 = .ok (.iload_n 1, 1) := by decide +kernel
theorem dX1_heads_2 : decode cX1_heads 2 = .ok (.invokestatic 56, 3) := by decide +kernel
theorem dX1_heads_5 : decode cX1_heads 5 = .ok (.invokevirtual 82, 3) := by decide +kernel
theorem dX1_heads_8 : decode cX1_heads 8 = .ok (.ifCond .eq 16, 3) := by decide +kernel
theorem dX1_heads_11 : decode cX1_heads 11 = .ok (.aload_n 0, 1) := by decide +kernel
theorem dX1_heads_12 : decode cX1_heads 12 = .ok (.aload_n 0, 1) := by decide +kernel
theorem dX1_heads_13 : decode cX1_heads 13 = .ok (.getfield 26, 3) := by decide +kernel
theorem dX1_heads_16 : decode cX1_heads 16 = .ok (.iload_n 1, 1) := by decide +kernel
theorem dX1_heads_17 : decode cX1_heads 17 = .ok (.laload, 1) := by decide +kernel
theorem dX1_heads_18 : decode cX1_heads 18 = .ok (.invokevirtual 52, 3) := by decide +kernel
theorem dX1_heads_21 : decode cX1_heads 21 = .ok (.goto 4, 3) := by decide +kernel
theorem dX1_heads_24 : decode cX1_heads 24 = .ok (.lconst 0, 1) := by decide +kernel
theorem dX1_heads_25 : decode cX1_heads 25 = .ok (.lreturn, 1) := by decide +kernel
set_option maxRecDepth 20000 in
theorem ggX1_commonHeads_X1_isAuthor : GoodIn wsX1_commonHeads wsX1_isAuthor := goodIn_r _ [5, 6, 7, 4, 8] (by decide +kernel) (by decide +kernel)
set_option maxRecDepth 20000 in
theorem gX1_commonHeads_X1_isAuthor : GoodIn wsX1_commonHeads (va_wsS RX1 56 yX1_isAuthor wsX1_isAuthor) := goodIn_app (goodIn_of _ (by decide +kernel)) ggX1_commonHeads_X1_isAuthor
set_option maxRecDepth 20000 in
theorem ggX1_commonHeads_X1_asked : GoodIn wsX1_commonHeads wsX1_asked := goodIn_r _ [12, 13, 24, 25, 26, 27, 28, 29, 30, 31, 32, 33] (by decide +kernel) (by decide +kernel)
set_option maxRecDepth 20000 in
theorem gX1_commonHeads_X1_asked : GoodIn wsX1_commonHeads (wsV RX1 82 RX1 yX1_asked wsX1_asked) := goodIn_app (goodIn_of _ (by decide +kernel)) ggX1_commonHeads_X1_asked
set_option maxRecDepth 20000 in
theorem ggX1_commonHeads_X1_headsOf : GoodIn wsX1_commonHeads wsX1_headsOf := goodIn_r _ [17, 18, 19, 20, 21, 22, 4, 23, 24, 25, 26, 27, 28, 29, 30, 31, 32, 33] (by decide +kernel) (by decide +kernel)
set_option maxRecDepth 20000 in
theorem gX1_commonHeads_X1_headsOf : GoodIn wsX1_commonHeads (wsV RX1 52 RX1 yX1_headsOf wsX1_headsOf) := goodIn_app (goodIn_of _ (by decide +kernel)) ggX1_commonHeads_X1_headsOf
theorem dX1_commonHeads_0 : decode cX1_commonHeads 0 = .ok (.aload_n 0, 1) := by decide +kernel
theorem dX1_commonHeads_1 : decode cX1_commonHeads 1 = .ok (.iload_n 1, 1) := by decide +kernel
theorem dX1_commonHeads_2 : decode cX1_commonHeads 2 = .ok (.invokestatic 56, 3) := by decide +kernel
theorem dX1_commonHeads_5 : decode cX1_commonHeads 5 = .ok (.ifCond .eq 14, 3) := by decide +kernel
theorem dX1_commonHeads_8 : decode cX1_commonHeads 8 = .ok (.iload_n 2, 1) := by decide +kernel
theorem dX1_commonHeads_9 : decode cX1_commonHeads 9 = .ok (.invokestatic 56, 3) := by decide +kernel
theorem dX1_commonHeads_12 : decode cX1_commonHeads 12 = .ok (.ifCond .eq 7, 3) := by decide +kernel
theorem dX1_commonHeads_15 : decode cX1_commonHeads 15 = .ok (.iconst 1, 1) := by decide +kernel
theorem dX1_commonHeads_16 : decode cX1_commonHeads 16 = .ok (.goto 4, 3) := by decide +kernel
theorem dX1_commonHeads_19 : decode cX1_commonHeads 19 = .ok (.iconst 0, 1) := by decide +kernel
theorem dX1_commonHeads_20 : decode cX1_commonHeads 20 = .ok (.invokevirtual 82, 3) := by decide +kernel
theorem dX1_commonHeads_23 : decode cX1_commonHeads 23 = .ok (.ifCond .eq 23, 3) := by decide +kernel
theorem dX1_commonHeads_26 : decode cX1_commonHeads 26 = .ok (.aload_n 0, 1) := by decide +kernel
theorem dX1_commonHeads_27 : decode cX1_commonHeads 27 = .ok (.aload_n 0, 1) := by decide +kernel
theorem dX1_commonHeads_28 : decode cX1_commonHeads 28 = .ok (.getfield 26, 3) := by decide +kernel
theorem dX1_commonHeads_31 : decode cX1_commonHeads 31 = .ok (.iload_n 1, 1) := by decide +kernel
theorem dX1_commonHeads_32 : decode cX1_commonHeads 32 = .ok (.laload, 1) := by decide +kernel
theorem dX1_commonHeads_33 : decode cX1_commonHeads 33 = .ok (.aload_n 0, 1) := by decide +kernel
theorem dX1_commonHeads_34 : decode cX1_commonHeads 34 = .ok (.getfield 26, 3) := by decide +kernel
theorem dX1_commonHeads_37 : decode cX1_commonHeads 37 = .ok (.iload_n 2, 1) := by decide +kernel
theorem dX1_commonHeads_38 : decode cX1_commonHeads 38 = .ok (.laload, 1) := by decide +kernel
theorem dX1_commonHeads_39 : decode cX1_commonHeads 39 = .ok (.land, 1) := by decide +kernel
theorem dX1_commonHeads_40 : decode cX1_commonHeads 40 = .ok (.invokevirtual 52, 3) := by decide +kernel
theorem dX1_commonHeads_43 : decode cX1_commonHeads 43 = .ok (.goto 4, 3) := by decide +kernel
theorem dX1_commonHeads_46 : decode cX1_commonHeads 46 = .ok (.lconst 0, 1) := by decide +kernel
theorem dX1_commonHeads_47 : decode cX1_commonHeads 47 = .ok (.lreturn, 1) := by decide +kernel
set_option maxRecDepth 20000 in
theorem ggX1_areConcurrent_X1_has : GoodIn wsX1_areConcurrent wsX1_has := goodIn_r _ [5] (by decide +kernel) (by decide +kernel)
set_option maxRecDepth 20000 in
theorem gX1_areConcurrent_X1_has : GoodIn wsX1_areConcurrent (va_wsS RX1 43 yX1_has wsX1_has) := goodIn_app (goodIn_of _ (by decide +kernel)) ggX1_areConcurrent_X1_has
theorem dX1_areConcurrent_0 : decode cX1_areConcurrent 0 = .ok (.iload_n 1, 1) := by decide +kernel
theorem dX1_areConcurrent_1 : decode cX1_areConcurrent 1 = .ok (.iload_n 2, 1) := by decide +kernel
theorem dX1_areConcurrent_2 : decode cX1_areConcurrent 2 = .ok (.if_icmp .eq 33, 3) := by decide +kernel
theorem dX1_areConcurrent_5 : decode cX1_areConcurrent 5 = .ok (.aload_n 0, 1) := by decide +kernel
theorem dX1_areConcurrent_6 : decode cX1_areConcurrent 6 = .ok (.getfield 23, 3) := by decide +kernel
theorem dX1_areConcurrent_9 : decode cX1_areConcurrent 9 = .ok (.iload_n 1, 1) := by decide +kernel
theorem dX1_areConcurrent_10 : decode cX1_areConcurrent 10 = .ok (.laload, 1) := by decide +kernel
theorem dX1_areConcurrent_11 : decode cX1_areConcurrent 11 = .ok (.iload_n 2, 1) := by decide +kernel
theorem dX1_areConcurrent_12 : decode cX1_areConcurrent 12 = .ok (.invokestatic 43, 3) := by decide +kernel
theorem dX1_areConcurrent_15 : decode cX1_areConcurrent 15 = .ok (.ifCond .ne 20, 3) := by decide +kernel
theorem dX1_areConcurrent_18 : decode cX1_areConcurrent 18 = .ok (.aload_n 0, 1) := by decide +kernel
theorem dX1_areConcurrent_19 : decode cX1_areConcurrent 19 = .ok (.getfield 23, 3) := by decide +kernel
theorem dX1_areConcurrent_22 : decode cX1_areConcurrent 22 = .ok (.iload_n 2, 1) := by decide +kernel
theorem dX1_areConcurrent_23 : decode cX1_areConcurrent 23 = .ok (.laload, 1) := by decide +kernel
theorem dX1_areConcurrent_24 : decode cX1_areConcurrent 24 = .ok (.iload_n 1, 1) := by decide +kernel
theorem dX1_areConcurrent_25 : decode cX1_areConcurrent 25 = .ok (.invokestatic 43, 3) := by decide +kernel
theorem dX1_areConcurrent_28 : decode cX1_areConcurrent 28 = .ok (.ifCond .ne 7, 3) := by decide +kernel
theorem dX1_areConcurrent_31 : decode cX1_areConcurrent 31 = .ok (.iconst 1, 1) := by decide +kernel
theorem dX1_areConcurrent_32 : decode cX1_areConcurrent 32 = .ok (.goto 4, 3) := by decide +kernel
theorem dX1_areConcurrent_35 : decode cX1_areConcurrent 35 = .ok (.iconst 0, 1) := by decide +kernel
theorem dX1_areConcurrent_36 : decode cX1_areConcurrent 36 = .ok (.ireturn, 1) := by decide +kernel
set_option maxRecDepth 20000 in
theorem ggX1_concurrent_X1_isAuthor : GoodIn wsX1_concurrent wsX1_isAuthor := goodIn_r _ [6, 7, 8, 5, 9] (by decide +kernel) (by decide +kernel)
set_option maxRecDepth 20000 in
theorem gX1_concurrent_X1_isAuthor : GoodIn wsX1_concurrent (va_wsS RX1 56 yX1_isAuthor wsX1_isAuthor) := goodIn_app (goodIn_of _ (by decide +kernel)) ggX1_concurrent_X1_isAuthor
set_option maxRecDepth 20000 in
theorem ggX1_concurrent_X1_asked : GoodIn wsX1_concurrent wsX1_asked := goodIn_r _ [13, 14, 23, 24, 25, 26, 27, 28, 29, 30, 31, 32] (by decide +kernel) (by decide +kernel)
set_option maxRecDepth 20000 in
theorem gX1_concurrent_X1_asked : GoodIn wsX1_concurrent (wsV RX1 82 RX1 yX1_asked wsX1_asked) := goodIn_app (goodIn_of _ (by decide +kernel)) ggX1_concurrent_X1_asked
set_option maxRecDepth 20000 in
theorem ggX1_concurrent_X1_has : GoodIn wsX1_concurrent wsX1_has := goodIn_r _ [17] (by decide +kernel) (by decide +kernel)
set_option maxRecDepth 20000 in
theorem gX1_concurrent_X1_has : GoodIn wsX1_concurrent (va_wsS RX1 43 yX1_has wsX1_has) := goodIn_app (goodIn_of _ (by decide +kernel)) ggX1_concurrent_X1_has
set_option maxRecDepth 20000 in
theorem ggX1_concurrent_X1_areConcurrent : GoodIn wsX1_concurrent wsX1_areConcurrent := goodIn_r _ [21, 22, 15, 16, 5, 17, 23, 24, 25, 26, 27, 28, 29, 30, 31, 32] (by decide +kernel) (by decide +kernel)
set_option maxRecDepth 20000 in
theorem gX1_concurrent_X1_areConcurrent : GoodIn wsX1_concurrent (wsV RX1 103 RX1 yX1_areConcurrent wsX1_areConcurrent) := goodIn_app (goodIn_of _ (by decide +kernel)) ggX1_concurrent_X1_areConcurrent
theorem dX1_concurrent_0 : decode cX1_concurrent 0 = .ok (.iconst 0, 1) := by decide +kernel
theorem dX1_concurrent_1 : decode cX1_concurrent 1 = .ok (.istore_n 2, 1) := by decide +kernel
theorem dX1_concurrent_2 : decode cX1_concurrent 2 = .ok (.aload_n 0, 1) := by decide +kernel
theorem dX1_concurrent_3 : decode cX1_concurrent 3 = .ok (.iload_n 1, 1) := by decide +kernel
theorem dX1_concurrent_4 : decode cX1_concurrent 4 = .ok (.invokestatic 56, 3) := by decide +kernel
theorem dX1_concurrent_7 : decode cX1_concurrent 7 = .ok (.invokevirtual 82, 3) := by decide +kernel
theorem dX1_concurrent_10 : decode cX1_concurrent 10 = .ok (.istore_n 3, 1) := by decide +kernel
theorem dX1_concurrent_11 : decode cX1_concurrent 11 = .ok (.iconst 0, 1) := by decide +kernel
theorem dX1_concurrent_12 : decode cX1_concurrent 12 = .ok (.istore 4, 2) := by decide +kernel
theorem dX1_concurrent_14 : decode cX1_concurrent 14 = .ok (.iload_n 3, 1) := by decide +kernel
theorem dX1_concurrent_15 : decode cX1_concurrent 15 = .ok (.ifCond .eq 81, 3) := by decide +kernel
theorem dX1_concurrent_18 : decode cX1_concurrent 18 = .ok (.iload 4, 2) := by decide +kernel
theorem dX1_concurrent_20 : decode cX1_concurrent 20 = .ok (.aload_n 0, 1) := by decide +kernel
theorem dX1_concurrent_21 : decode cX1_concurrent 21 = .ok (.getfield 40, 3) := by decide +kernel
theorem dX1_concurrent_24 : decode cX1_concurrent 24 = .ok (.if_icmp .ge 72, 3) := by decide +kernel
theorem dX1_concurrent_27 : decode cX1_concurrent 27 = .ok (.iconst 0, 1) := by decide +kernel
theorem dX1_concurrent_28 : decode cX1_concurrent 28 = .ok (.istore 5, 2) := by decide +kernel
theorem dX1_concurrent_30 : decode cX1_concurrent 30 = .ok (.iload 5, 2) := by decide +kernel
theorem dX1_concurrent_32 : decode cX1_concurrent 32 = .ok (.iload 4, 2) := by decide +kernel
theorem dX1_concurrent_34 : decode cX1_concurrent 34 = .ok (.if_icmp .ge 56, 3) := by decide +kernel
theorem dX1_concurrent_37 : decode cX1_concurrent 37 = .ok (.iload_n 2, 1) := by decide +kernel
theorem dX1_concurrent_38 : decode cX1_concurrent 38 = .ok (.aload_n 0, 1) := by decide +kernel
theorem dX1_concurrent_39 : decode cX1_concurrent 39 = .ok (.getfield 26, 3) := by decide +kernel
theorem dX1_concurrent_42 : decode cX1_concurrent 42 = .ok (.iload_n 1, 1) := by decide +kernel
theorem dX1_concurrent_43 : decode cX1_concurrent 43 = .ok (.laload, 1) := by decide +kernel
theorem dX1_concurrent_44 : decode cX1_concurrent 44 = .ok (.iload 4, 2) := by decide +kernel
theorem dX1_concurrent_46 : decode cX1_concurrent 46 = .ok (.invokestatic 43, 3) := by decide +kernel
theorem dX1_concurrent_49 : decode cX1_concurrent 49 = .ok (.ifCond .eq 32, 3) := by decide +kernel
theorem dX1_concurrent_52 : decode cX1_concurrent 52 = .ok (.aload_n 0, 1) := by decide +kernel
theorem dX1_concurrent_53 : decode cX1_concurrent 53 = .ok (.getfield 26, 3) := by decide +kernel
theorem dX1_concurrent_56 : decode cX1_concurrent 56 = .ok (.iload_n 1, 1) := by decide +kernel
theorem dX1_concurrent_57 : decode cX1_concurrent 57 = .ok (.laload, 1) := by decide +kernel
theorem dX1_concurrent_58 : decode cX1_concurrent 58 = .ok (.iload 5, 2) := by decide +kernel
theorem dX1_concurrent_60 : decode cX1_concurrent 60 = .ok (.invokestatic 43, 3) := by decide +kernel
theorem dX1_concurrent_63 : decode cX1_concurrent 63 = .ok (.ifCond .eq 18, 3) := by decide +kernel
theorem dX1_concurrent_66 : decode cX1_concurrent 66 = .ok (.aload_n 0, 1) := by decide +kernel
theorem dX1_concurrent_67 : decode cX1_concurrent 67 = .ok (.iload 5, 2) := by decide +kernel
theorem dX1_concurrent_69 : decode cX1_concurrent 69 = .ok (.iload 4, 2) := by decide +kernel
theorem dX1_concurrent_71 : decode cX1_concurrent 71 = .ok (.invokevirtual 103, 3) := by decide +kernel
theorem dX1_concurrent_74 : decode cX1_concurrent 74 = .ok (.ifCond .eq 7, 3) := by decide +kernel
theorem dX1_concurrent_77 : decode cX1_concurrent 77 = .ok (.iconst 1, 1) := by decide +kernel
theorem dX1_concurrent_78 : decode cX1_concurrent 78 = .ok (.goto 4, 3) := by decide +kernel
theorem dX1_concurrent_81 : decode cX1_concurrent 81 = .ok (.iconst 0, 1) := by decide +kernel
theorem dX1_concurrent_82 : decode cX1_concurrent 82 = .ok (.iadd, 1) := by decide +kernel
theorem dX1_concurrent_83 : decode cX1_concurrent 83 = .ok (.istore_n 2, 1) := by decide +kernel
theorem dX1_concurrent_84 : decode cX1_concurrent 84 = .ok (.iinc 5 1, 3) := by decide +kernel
theorem dX1_concurrent_87 : decode cX1_concurrent 87 = .ok (.goto (-57), 3) := by decide +kernel
theorem dX1_concurrent_90 : decode cX1_concurrent 90 = .ok (.iinc 4 1, 3) := by decide +kernel
theorem dX1_concurrent_93 : decode cX1_concurrent 93 = .ok (.goto (-79), 3) := by decide +kernel
theorem dX1_concurrent_96 : decode cX1_concurrent 96 = .ok (.iload_n 2, 1) := by decide +kernel
theorem dX1_concurrent_97 : decode cX1_concurrent 97 = .ok (.ireturn, 1) := by decide +kernel
set_option maxRecDepth 20000 in
theorem ggX1_criticals_X1_has : GoodIn wsX1_criticals wsX1_has := goodIn_r _ [6] (by decide +kernel) (by decide +kernel)
set_option maxRecDepth 20000 in
theorem gX1_criticals_X1_has : GoodIn wsX1_criticals (va_wsS RX1 43 yX1_has wsX1_has) := goodIn_app (goodIn_of _ (by decide +kernel)) ggX1_criticals_X1_has
set_option maxRecDepth 20000 in
theorem ggX1_criticals_X1_areConcurrent : GoodIn wsX1_criticals wsX1_areConcurrent := goodIn_r _ [10, 11, 3, 4, 5, 6, 12, 13, 14, 15, 16, 17, 18, 19, 20, 21] (by decide +kernel) (by decide +kernel)
set_option maxRecDepth 20000 in
theorem gX1_criticals_X1_areConcurrent : GoodIn wsX1_criticals (wsV RX1 103 RX1 yX1_areConcurrent wsX1_areConcurrent) := goodIn_app (goodIn_of _ (by decide +kernel)) ggX1_criticals_X1_areConcurrent
theorem dX1_criticals_0 : decode cX1_criticals 0 = .ok (.lconst 0, 1) := by decide +kernel
theorem dX1_criticals_1 : decode cX1_criticals 1 = .ok (.lstore_n 2, 1) := by decide +kernel
theorem dX1_criticals_2 : decode cX1_criticals 2 = .ok (.iconst 0, 1) := by decide +kernel
theorem dX1_criticals_3 : decode cX1_criticals 3 = .ok (.istore 4, 2) := by decide +kernel
theorem dX1_criticals_5 : decode cX1_criticals 5 = .ok (.iload 4, 2) := by decide +kernel
theorem dX1_criticals_7 : decode cX1_criticals 7 = .ok (.aload_n 0, 1) := by decide +kernel
theorem dX1_criticals_8 : decode cX1_criticals 8 = .ok (.getfield 40, 3) := by decide +kernel
theorem dX1_criticals_11 : decode cX1_criticals 11 = .ok (.if_icmp .ge 93, 3) := by decide +kernel
theorem dX1_criticals_14 : decode cX1_criticals 14 = .ok (.aload_n 0, 1) := by decide +kernel
theorem dX1_criticals_15 : decode cX1_criticals 15 = .ok (.getfield 26, 3) := by decide +kernel
theorem dX1_criticals_18 : decode cX1_criticals 18 = .ok (.iload_n 1, 1) := by decide +kernel
theorem dX1_criticals_19 : decode cX1_criticals 19 = .ok (.laload, 1) := by decide +kernel
theorem dX1_criticals_20 : decode cX1_criticals 20 = .ok (.iload 4, 2) := by decide +kernel
theorem dX1_criticals_22 : decode cX1_criticals 22 = .ok (.invokestatic 43, 3) := by decide +kernel
theorem dX1_criticals_25 : decode cX1_criticals 25 = .ok (.istore 5, 2) := by decide +kernel
theorem dX1_criticals_27 : decode cX1_criticals 27 = .ok (.iconst 0, 1) := by decide +kernel
theorem dX1_criticals_28 : decode cX1_criticals 28 = .ok (.istore 6, 2) := by decide +kernel
theorem dX1_criticals_30 : decode cX1_criticals 30 = .ok (.iload 6, 2) := by decide +kernel
theorem dX1_criticals_32 : decode cX1_criticals 32 = .ok (.aload_n 0, 1) := by decide +kernel
theorem dX1_criticals_33 : decode cX1_criticals 33 = .ok (.getfield 40, 3) := by decide +kernel
theorem dX1_criticals_36 : decode cX1_criticals 36 = .ok (.if_icmp .ge 46, 3) := by decide +kernel
theorem dX1_criticals_39 : decode cX1_criticals 39 = .ok (.iload 5, 2) := by decide +kernel
theorem dX1_criticals_41 : decode cX1_criticals 41 = .ok (.ifCond .eq 41, 3) := by decide +kernel
theorem dX1_criticals_44 : decode cX1_criticals 44 = .ok (.aload_n 0, 1) := by decide +kernel
theorem dX1_criticals_45 : decode cX1_criticals 45 = .ok (.getfield 26, 3) := by decide +kernel
theorem dX1_criticals_48 : decode cX1_criticals 48 = .ok (.iload_n 1, 1) := by decide +kernel
theorem dX1_criticals_49 : decode cX1_criticals 49 = .ok (.laload, 1) := by decide +kernel
theorem dX1_criticals_50 : decode cX1_criticals 50 = .ok (.iload 6, 2) := by decide +kernel
theorem dX1_criticals_52 : decode cX1_criticals 52 = .ok (.invokestatic 43, 3) := by decide +kernel
theorem dX1_criticals_55 : decode cX1_criticals 55 = .ok (.ifCond .eq 14, 3) := by decide +kernel
theorem dX1_criticals_58 : decode cX1_criticals 58 = .ok (.aload_n 0, 1) := by decide +kernel
theorem dX1_criticals_59 : decode cX1_criticals 59 = .ok (.iload 6, 2) := by decide +kernel
theorem dX1_criticals_61 : decode cX1_criticals 61 = .ok (.iload 4, 2) := by decide +kernel
theorem dX1_criticals_63 : decode cX1_criticals 63 = .ok (.invokevirtual 103, 3) := by decide +kernel
theorem dX1_criticals_66 : decode cX1_criticals 66 = .ok (.ifCond .ne 7, 3) := by decide +kernel
theorem dX1_criticals_69 : decode cX1_criticals 69 = .ok (.iconst 1, 1) := by decide +kernel
theorem dX1_criticals_70 : decode cX1_criticals 70 = .ok (.goto 4, 3) := by decide +kernel
theorem dX1_criticals_73 : decode cX1_criticals 73 = .ok (.iconst 0, 1) := by decide +kernel
theorem dX1_criticals_74 : decode cX1_criticals 74 = .ok (.istore 5, 2) := by decide +kernel
theorem dX1_criticals_76 : decode cX1_criticals 76 = .ok (.iinc 6 1, 3) := by decide +kernel
theorem dX1_criticals_79 : decode cX1_criticals 79 = .ok (.goto (-49), 3) := by decide +kernel
theorem dX1_criticals_82 : decode cX1_criticals 82 = .ok (.lload_n 2, 1) := by decide +kernel
theorem dX1_criticals_83 : decode cX1_criticals 83 = .ok (.iload 5, 2) := by decide +kernel
theorem dX1_criticals_85 : decode cX1_criticals 85 = .ok (.ifCond .eq 10, 3) := by decide +kernel
theorem dX1_criticals_88 : decode cX1_criticals 88 = .ok (.lconst 1, 1) := by decide +kernel
theorem dX1_criticals_89 : decode cX1_criticals 89 = .ok (.iload 4, 2) := by decide +kernel
theorem dX1_criticals_91 : decode cX1_criticals 91 = .ok (.lshl, 1) := by decide +kernel
theorem dX1_criticals_92 : decode cX1_criticals 92 = .ok (.goto 4, 3) := by decide +kernel
theorem dX1_criticals_95 : decode cX1_criticals 95 = .ok (.lconst 0, 1) := by decide +kernel
theorem dX1_criticals_96 : decode cX1_criticals 96 = .ok (.lor, 1) := by decide +kernel
theorem dX1_criticals_97 : decode cX1_criticals 97 = .ok (.lstore_n 2, 1) := by decide +kernel
theorem dX1_criticals_98 : decode cX1_criticals 98 = .ok (.iinc 4 1, 3) := by decide +kernel
theorem dX1_criticals_101 : decode cX1_criticals 101 = .ok (.goto (-96), 3) := by decide +kernel
theorem dX1_criticals_104 : decode cX1_criticals 104 = .ok (.lload_n 2, 1) := by decide +kernel
theorem dX1_criticals_105 : decode cX1_criticals 105 = .ok (.lreturn, 1) := by decide +kernel
set_option maxRecDepth 20000 in
theorem ggX1_critical_X1_isAuthor : GoodIn wsX1_critical wsX1_isAuthor := goodIn_r _ [4, 5, 6, 3, 7] (by decide +kernel) (by decide +kernel)
set_option maxRecDepth 20000 in
theorem gX1_critical_X1_isAuthor : GoodIn wsX1_critical (va_wsS RX1 56 yX1_isAuthor wsX1_isAuthor) := goodIn_app (goodIn_of _ (by decide +kernel)) ggX1_critical_X1_isAuthor
set_option maxRecDepth 20000 in
theorem ggX1_critical_X1_asked : GoodIn wsX1_critical wsX1_asked := goodIn_r _ [11, 12, 27, 28, 29, 30, 31, 32, 33, 34, 35, 36] (by decide +kernel) (by decide +kernel)
set_option maxRecDepth 20000 in
theorem gX1_critical_X1_asked : GoodIn wsX1_critical (wsV RX1 82 RX1 yX1_asked wsX1_asked) := goodIn_app (goodIn_of _ (by decide +kernel)) ggX1_critical_X1_asked
set_option maxRecDepth 20000 in
theorem ggX1_critical_X1_criticals : GoodIn wsX1_critical wsX1_criticals := goodIn_r _ [16, 17, 18, 19, 20, 3, 21, 22, 23, 24, 25, 26, 27, 28, 29, 30, 31, 32, 33, 34, 35, 36] (by decide +kernel) (by decide +kernel)
set_option maxRecDepth 20000 in
theorem gX1_critical_X1_criticals : GoodIn wsX1_critical (wsV RX1 107 RX1 yX1_criticals wsX1_criticals) := goodIn_app (goodIn_of _ (by decide +kernel)) ggX1_critical_X1_criticals
theorem dX1_critical_0 : decode cX1_critical 0 = .ok (.aload_n 0, 1) := by decide +kernel
theorem dX1_critical_1 : decode cX1_critical 1 = .ok (.iload_n 1, 1) := by decide +kernel
theorem dX1_critical_2 : decode cX1_critical 2 = .ok (.invokestatic 56, 3) := by decide +kernel
theorem dX1_critical_5 : decode cX1_critical 5 = .ok (.invokevirtual 82, 3) := by decide +kernel
theorem dX1_critical_8 : decode cX1_critical 8 = .ok (.ifCond .eq 11, 3) := by decide +kernel
theorem dX1_critical_11 : decode cX1_critical 11 = .ok (.aload_n 0, 1) := by decide +kernel
theorem dX1_critical_12 : decode cX1_critical 12 = .ok (.iload_n 1, 1) := by decide +kernel
theorem dX1_critical_13 : decode cX1_critical 13 = .ok (.invokevirtual 107, 3) := by decide +kernel
theorem dX1_critical_16 : decode cX1_critical 16 = .ok (.goto 4, 3) := by decide +kernel
theorem dX1_critical_19 : decode cX1_critical 19 = .ok (.lconst 0, 1) := by decide +kernel
theorem dX1_critical_20 : decode cX1_critical 20 = .ok (.lreturn, 1) := by decide +kernel
set_option maxRecDepth 20000 in
theorem ggX1_toReplay_X1_isAuthor : GoodIn wsX1_toReplay wsX1_isAuthor := goodIn_r _ [7, 8, 9, 6, 10] (by decide +kernel) (by decide +kernel)
set_option maxRecDepth 20000 in
theorem gX1_toReplay_X1_isAuthor : GoodIn wsX1_toReplay (va_wsS RX1 56 yX1_isAuthor wsX1_isAuthor) := goodIn_app (goodIn_of _ (by decide +kernel)) ggX1_toReplay_X1_isAuthor
set_option maxRecDepth 20000 in
theorem ggX1_toReplay_X1_asked : GoodIn wsX1_toReplay wsX1_asked := goodIn_r _ [14, 15, 36, 37, 38, 39, 40, 41, 42, 43, 44, 45] (by decide +kernel) (by decide +kernel)
set_option maxRecDepth 20000 in
theorem gX1_toReplay_X1_asked : GoodIn wsX1_toReplay (wsV RX1 82 RX1 yX1_asked wsX1_asked) := goodIn_app (goodIn_of _ (by decide +kernel)) ggX1_toReplay_X1_asked
set_option maxRecDepth 20000 in
theorem ggX1_toReplay_X1_criticals : GoodIn wsX1_toReplay wsX1_criticals := goodIn_r _ [19, 1, 2, 20, 21, 6, 22, 23, 24, 25, 26, 27, 36, 37, 38, 39, 40, 41, 42, 43, 44, 45] (by decide +kernel) (by decide +kernel)
set_option maxRecDepth 20000 in
theorem gX1_toReplay_X1_criticals : GoodIn wsX1_toReplay (wsV RX1 107 RX1 yX1_criticals wsX1_criticals) := goodIn_app (goodIn_of _ (by decide +kernel)) ggX1_toReplay_X1_criticals
set_option maxRecDepth 20000 in
theorem ggX1_toReplay_X1_has : GoodIn wsX1_toReplay wsX1_has := goodIn_r _ [22] (by decide +kernel) (by decide +kernel)
set_option maxRecDepth 20000 in
theorem gX1_toReplay_X1_has : GoodIn wsX1_toReplay (va_wsS RX1 43 yX1_has wsX1_has) := goodIn_app (goodIn_of _ (by decide +kernel)) ggX1_toReplay_X1_has
set_option maxRecDepth 20000 in
theorem ggX1_toReplay_X1_versionOf : GoodIn wsX1_toReplay wsX1_versionOf := goodIn_r _ [31, 27, 36, 37, 38, 39, 40, 41, 42, 43, 44, 45] (by decide +kernel) (by decide +kernel)
set_option maxRecDepth 20000 in
theorem gX1_toReplay_X1_versionOf : GoodIn wsX1_toReplay (wsV RX1 92 RX1 yX1_versionOf wsX1_versionOf) := goodIn_app (goodIn_of _ (by decide +kernel)) ggX1_toReplay_X1_versionOf
set_option maxRecDepth 20000 in
theorem ggX1_toReplay_X1_count : GoodIn wsX1_toReplay wsX1_count := goodIn_r _ [35, 1, 20, 21, 6, 22, 36, 37, 38, 39, 40, 41, 42, 43, 44, 45] (by decide +kernel) (by decide +kernel)
set_option maxRecDepth 20000 in
theorem gX1_toReplay_X1_count : GoodIn wsX1_toReplay (wsV RX1 78 RX1 yX1_count wsX1_count) := goodIn_app (goodIn_of _ (by decide +kernel)) ggX1_toReplay_X1_count
theorem dX1_toReplay_0 : decode cX1_toReplay 0 = .ok (.aload_n 0, 1) := by decide +kernel
theorem dX1_toReplay_1 : decode cX1_toReplay 1 = .ok (.iload_n 1, 1) := by decide +kernel
theorem dX1_toReplay_2 : decode cX1_toReplay 2 = .ok (.invokestatic 56, 3) := by decide +kernel
theorem dX1_toReplay_5 : decode cX1_toReplay 5 = .ok (.invokevirtual 82, 3) := by decide +kernel
theorem dX1_toReplay_8 : decode cX1_toReplay 8 = .ok (.ifCond .ne 5, 3) := by decide +kernel
theorem dX1_toReplay_11 : decode cX1_toReplay 11 = .ok (.iconst 0, 1) := by decide +kernel
theorem dX1_toReplay_12 : decode cX1_toReplay 12 = .ok (.ireturn, 1) := by decide +kernel
theorem dX1_toReplay_13 : decode cX1_toReplay 13 = .ok (.aload_n 0, 1) := by decide +kernel
theorem dX1_toReplay_14 : decode cX1_toReplay 14 = .ok (.iload_n 1, 1) := by decide +kernel
theorem dX1_toReplay_15 : decode cX1_toReplay 15 = .ok (.invokevirtual 107, 3) := by decide +kernel
theorem dX1_toReplay_18 : decode cX1_toReplay 18 = .ok (.lstore_n 2, 1) := by decide +kernel
theorem dX1_toReplay_19 : decode cX1_toReplay 19 = .ok (.lconst 0, 1) := by decide +kernel
theorem dX1_toReplay_20 : decode cX1_toReplay 20 = .ok (.lstore 4, 2) := by decide +kernel
theorem dX1_toReplay_22 : decode cX1_toReplay 22 = .ok (.iconst 0, 1) := by decide +kernel
theorem dX1_toReplay_23 : decode cX1_toReplay 23 = .ok (.istore 6, 2) := by decide +kernel
theorem dX1_toReplay_25 : decode cX1_toReplay 25 = .ok (.iload 6, 2) := by decide +kernel
theorem dX1_toReplay_27 : decode cX1_toReplay 27 = .ok (.aload_n 0, 1) := by decide +kernel
theorem dX1_toReplay_28 : decode cX1_toReplay 28 = .ok (.getfield 40, 3) := by decide +kernel
theorem dX1_toReplay_31 : decode cX1_toReplay 31 = .ok (.if_icmp .ge 31, 3) := by decide +kernel
theorem dX1_toReplay_34 : decode cX1_toReplay 34 = .ok (.lload_n 2, 1) := by decide +kernel
theorem dX1_toReplay_35 : decode cX1_toReplay 35 = .ok (.iload 6, 2) := by decide +kernel
theorem dX1_toReplay_37 : decode cX1_toReplay 37 = .ok (.invokestatic 43, 3) := by decide +kernel
theorem dX1_toReplay_40 : decode cX1_toReplay 40 = .ok (.ifCond .eq 12, 3) := by decide +kernel
theorem dX1_toReplay_43 : decode cX1_toReplay 43 = .ok (.aload_n 0, 1) := by decide +kernel
theorem dX1_toReplay_44 : decode cX1_toReplay 44 = .ok (.iload 6, 2) := by decide +kernel
theorem dX1_toReplay_46 : decode cX1_toReplay 46 = .ok (.invokevirtual 92, 3) := by decide +kernel
theorem dX1_toReplay_49 : decode cX1_toReplay 49 = .ok (.goto 5, 3) := by decide +kernel
theorem dX1_toReplay_52 : decode cX1_toReplay 52 = .ok (.lload 4, 2) := by decide +kernel
theorem dX1_toReplay_54 : decode cX1_toReplay 54 = .ok (.lstore 4, 2) := by decide +kernel
theorem dX1_toReplay_56 : decode cX1_toReplay 56 = .ok (.iinc 6 1, 3) := by decide +kernel
theorem dX1_toReplay_59 : decode cX1_toReplay 59 = .ok (.goto (-34), 3) := by decide +kernel
theorem dX1_toReplay_62 : decode cX1_toReplay 62 = .ok (.aload_n 0, 1) := by decide +kernel
theorem dX1_toReplay_63 : decode cX1_toReplay 63 = .ok (.aload_n 0, 1) := by decide +kernel
theorem dX1_toReplay_64 : decode cX1_toReplay 64 = .ok (.getfield 26, 3) := by decide +kernel
theorem dX1_toReplay_67 : decode cX1_toReplay 67 = .ok (.iload_n 1, 1) := by decide +kernel
theorem dX1_toReplay_68 : decode cX1_toReplay 68 = .ok (.laload, 1) := by decide +kernel
theorem dX1_toReplay_69 : decode cX1_toReplay 69 = .ok (.lload 4, 2) := by decide +kernel
theorem dX1_toReplay_71 : decode cX1_toReplay 71 = .ok (.ldc2_w 47, 3) := by decide +kernel
theorem dX1_toReplay_74 : decode cX1_toReplay 74 = .ok (.lxor, 1) := by decide +kernel
theorem dX1_toReplay_75 : decode cX1_toReplay 75 = .ok (.land, 1) := by decide +kernel
theorem dX1_toReplay_76 : decode cX1_toReplay 76 = .ok (.invokevirtual 78, 3) := by decide +kernel
theorem dX1_toReplay_79 : decode cX1_toReplay 79 = .ok (.ireturn, 1) := by decide +kernel
theorem dX1_goesOn_0 : decode cX1_goesOn 0 = .ok (.aload_n 0, 1) := by decide +kernel
theorem dX1_goesOn_1 : decode cX1_goesOn 1 = .ok (.getfield 16, 3) := by decide +kernel
theorem dX1_goesOn_4 : decode cX1_goesOn 4 = .ok (.iload_n 1, 1) := by decide +kernel
theorem dX1_goesOn_5 : decode cX1_goesOn 5 = .ok (.iaload, 1) := by decide +kernel
theorem dX1_goesOn_6 : decode cX1_goesOn 6 = .ok (.istore_n 2, 1) := by decide +kernel
theorem dX1_goesOn_7 : decode cX1_goesOn 7 = .ok (.aload_n 0, 1) := by decide +kernel
theorem dX1_goesOn_8 : decode cX1_goesOn 8 = .ok (.getfield 13, 3) := by decide +kernel
theorem dX1_goesOn_11 : decode cX1_goesOn 11 = .ok (.iload_n 1, 1) := by decide +kernel
theorem dX1_goesOn_12 : decode cX1_goesOn 12 = .ok (.iaload, 1) := by decide +kernel
theorem dX1_goesOn_13 : decode cX1_goesOn 13 = .ok (.iconst (-1), 1) := by decide +kernel
theorem dX1_goesOn_14 : decode cX1_goesOn 14 = .ok (.if_icmp .eq 40, 3) := by decide +kernel
theorem dX1_goesOn_17 : decode cX1_goesOn 17 = .ok (.iload_n 2, 1) := by decide +kernel
theorem dX1_goesOn_18 : decode cX1_goesOn 18 = .ok (.iconst (-1), 1) := by decide +kernel
theorem dX1_goesOn_19 : decode cX1_goesOn 19 = .ok (.if_icmp .eq 35, 3) := by decide +kernel
theorem dX1_goesOn_22 : decode cX1_goesOn 22 = .ok (.aload_n 0, 1) := by decide +kernel
theorem dX1_goesOn_23 : decode cX1_goesOn 23 = .ok (.getfield 19, 3) := by decide +kernel
theorem dX1_goesOn_26 : decode cX1_goesOn 26 = .ok (.iload_n 1, 1) := by decide +kernel
theorem dX1_goesOn_27 : decode cX1_goesOn 27 = .ok (.laload, 1) := by decide +kernel
theorem dX1_goesOn_28 : decode cX1_goesOn 28 = .ok (.lconst 1, 1) := by decide +kernel
theorem dX1_goesOn_29 : decode cX1_goesOn 29 = .ok (.iload_n 2, 1) := by decide +kernel
theorem dX1_goesOn_30 : decode cX1_goesOn 30 = .ok (.lshl, 1) := by decide +kernel
theorem dX1_goesOn_31 : decode cX1_goesOn 31 = .ok (.lcmp, 1) := by decide +kernel
theorem dX1_goesOn_32 : decode cX1_goesOn 32 = .ok (.ifCond .ne 22, 3) := by decide +kernel
theorem dX1_goesOn_35 : decode cX1_goesOn 35 = .ok (.aload_n 0, 1) := by decide +kernel
theorem dX1_goesOn_36 : decode cX1_goesOn 36 = .ok (.getfield 7, 3) := by decide +kernel
theorem dX1_goesOn_39 : decode cX1_goesOn 39 = .ok (.iload_n 2, 1) := by decide +kernel
theorem dX1_goesOn_40 : decode cX1_goesOn 40 = .ok (.iaload, 1) := by decide +kernel
theorem dX1_goesOn_41 : decode cX1_goesOn 41 = .ok (.aload_n 0, 1) := by decide +kernel
theorem dX1_goesOn_42 : decode cX1_goesOn 42 = .ok (.getfield 7, 3) := by decide +kernel
theorem dX1_goesOn_45 : decode cX1_goesOn 45 = .ok (.iload_n 1, 1) := by decide +kernel
theorem dX1_goesOn_46 : decode cX1_goesOn 46 = .ok (.iaload, 1) := by decide +kernel
theorem dX1_goesOn_47 : decode cX1_goesOn 47 = .ok (.if_icmp .ne 7, 3) := by decide +kernel
theorem dX1_goesOn_50 : decode cX1_goesOn 50 = .ok (.iconst 1, 1) := by decide +kernel
theorem dX1_goesOn_51 : decode cX1_goesOn 51 = .ok (.goto 4, 3) := by decide +kernel
theorem dX1_goesOn_54 : decode cX1_goesOn 54 = .ok (.iconst 0, 1) := by decide +kernel
theorem dX1_goesOn_55 : decode cX1_goesOn 55 = .ok (.ireturn, 1) := by decide +kernel
set_option maxRecDepth 20000 in
theorem ggX1_runs_X1_isAuthor : GoodIn wsX1_runs wsX1_isAuthor := goodIn_r _ [6, 7, 8, 5, 9] (by decide +kernel) (by decide +kernel)
set_option maxRecDepth 20000 in
theorem gX1_runs_X1_isAuthor : GoodIn wsX1_runs (va_wsS RX1 56 yX1_isAuthor wsX1_isAuthor) := goodIn_app (goodIn_of _ (by decide +kernel)) ggX1_runs_X1_isAuthor
set_option maxRecDepth 20000 in
theorem ggX1_runs_X1_asked : GoodIn wsX1_runs wsX1_asked := goodIn_r _ [13, 14, 26, 27, 28, 29, 30, 31, 32, 33, 34, 35] (by decide +kernel) (by decide +kernel)
set_option maxRecDepth 20000 in
theorem gX1_runs_X1_asked : GoodIn wsX1_runs (wsV RX1 82 RX1 yX1_asked wsX1_asked) := goodIn_app (goodIn_of _ (by decide +kernel)) ggX1_runs_X1_asked
set_option maxRecDepth 20000 in
theorem ggX1_runs_X1_has : GoodIn wsX1_runs wsX1_has := goodIn_r _ [17] (by decide +kernel) (by decide +kernel)
set_option maxRecDepth 20000 in
theorem gX1_runs_X1_has : GoodIn wsX1_runs (va_wsS RX1 43 yX1_has wsX1_has) := goodIn_app (goodIn_of _ (by decide +kernel)) ggX1_runs_X1_has
set_option maxRecDepth 20000 in
theorem ggX1_runs_X1_goesOn : GoodIn wsX1_runs wsX1_goesOn := goodIn_r _ [21, 22, 23, 24, 25, 26, 27, 28, 29, 30, 31, 32, 33, 34, 35] (by decide +kernel) (by decide +kernel)
set_option maxRecDepth 20000 in
theorem gX1_runs_X1_goesOn : GoodIn wsX1_runs (wsV RX1 110 RX1 yX1_goesOn wsX1_goesOn) := goodIn_app (goodIn_of _ (by decide +kernel)) ggX1_runs_X1_goesOn
theorem dX1_runs_0 : decode cX1_runs 0 = .ok (.iconst 0, 1) := by decide +kernel
theorem dX1_runs_1 : decode cX1_runs 1 = .ok (.istore_n 2, 1) := by decide +kernel
theorem dX1_runs_2 : decode cX1_runs 2 = .ok (.aload_n 0, 1) := by decide +kernel
theorem dX1_runs_3 : decode cX1_runs 3 = .ok (.iload_n 1, 1) := by decide +kernel
theorem dX1_runs_4 : decode cX1_runs 4 = .ok (.invokestatic 56, 3) := by decide +kernel
theorem dX1_runs_7 : decode cX1_runs 7 = .ok (.invokevirtual 82, 3) := by decide +kernel
theorem dX1_runs_10 : decode cX1_runs 10 = .ok (.istore_n 3, 1) := by decide +kernel
theorem dX1_runs_11 : decode cX1_runs 11 = .ok (.iconst 0, 1) := by decide +kernel
theorem dX1_runs_12 : decode cX1_runs 12 = .ok (.istore 4, 2) := by decide +kernel
theorem dX1_runs_14 : decode cX1_runs 14 = .ok (.iload_n 3, 1) := by decide +kernel
theorem dX1_runs_15 : decode cX1_runs 15 = .ok (.ifCond .eq 49, 3) := by decide +kernel
theorem dX1_runs_18 : decode cX1_runs 18 = .ok (.iload 4, 2) := by decide +kernel
theorem dX1_runs_20 : decode cX1_runs 20 = .ok (.aload_n 0, 1) := by decide +kernel
theorem dX1_runs_21 : decode cX1_runs 21 = .ok (.getfield 40, 3) := by decide +kernel
theorem dX1_runs_24 : decode cX1_runs 24 = .ok (.if_icmp .ge 40, 3) := by decide +kernel
theorem dX1_runs_27 : decode cX1_runs 27 = .ok (.iload_n 2, 1) := by decide +kernel
theorem dX1_runs_28 : decode cX1_runs 28 = .ok (.aload_n 0, 1) := by decide +kernel
theorem dX1_runs_29 : decode cX1_runs 29 = .ok (.getfield 26, 3) := by decide +kernel
theorem dX1_runs_32 : decode cX1_runs 32 = .ok (.iload_n 1, 1) := by decide +kernel
theorem dX1_runs_33 : decode cX1_runs 33 = .ok (.laload, 1) := by decide +kernel
theorem dX1_runs_34 : decode cX1_runs 34 = .ok (.iload 4, 2) := by decide +kernel
theorem dX1_runs_36 : decode cX1_runs 36 = .ok (.invokestatic 43, 3) := by decide +kernel
theorem dX1_runs_39 : decode cX1_runs 39 = .ok (.ifCond .eq 16, 3) := by decide +kernel
theorem dX1_runs_42 : decode cX1_runs 42 = .ok (.aload_n 0, 1) := by decide +kernel
theorem dX1_runs_43 : decode cX1_runs 43 = .ok (.iload 4, 2) := by decide +kernel
theorem dX1_runs_45 : decode cX1_runs 45 = .ok (.invokevirtual 110, 3) := by decide +kernel
theorem dX1_runs_48 : decode cX1_runs 48 = .ok (.ifCond .ne 7, 3) := by decide +kernel
theorem dX1_runs_51 : decode cX1_runs 51 = .ok (.iconst 1, 1) := by decide +kernel
theorem dX1_runs_52 : decode cX1_runs 52 = .ok (.goto 4, 3) := by decide +kernel
theorem dX1_runs_55 : decode cX1_runs 55 = .ok (.iconst 0, 1) := by decide +kernel
theorem dX1_runs_56 : decode cX1_runs 56 = .ok (.iadd, 1) := by decide +kernel
theorem dX1_runs_57 : decode cX1_runs 57 = .ok (.istore_n 2, 1) := by decide +kernel
theorem dX1_runs_58 : decode cX1_runs 58 = .ok (.iinc 4 1, 3) := by decide +kernel
theorem dX1_runs_61 : decode cX1_runs 61 = .ok (.goto (-47), 3) := by decide +kernel
theorem dX1_runs_64 : decode cX1_runs 64 = .ok (.iload_n 2, 1) := by decide +kernel
theorem dX1_runs_65 : decode cX1_runs 65 = .ok (.ireturn, 1) := by decide +kernel
theorem dJ13_bitCount_95d88_0 : decode cJ13_bitCount_95d88 0 = .ok (.lload_n 0, 1) := by decide +kernel
theorem dJ13_bitCount_95d88_1 : decode cJ13_bitCount_95d88 1 = .ok (.lload_n 0, 1) := by decide +kernel
theorem dJ13_bitCount_95d88_2 : decode cJ13_bitCount_95d88 2 = .ok (.iconst 1, 1) := by decide +kernel
theorem dJ13_bitCount_95d88_3 : decode cJ13_bitCount_95d88 3 = .ok (.lushr, 1) := by decide +kernel
theorem dJ13_bitCount_95d88_4 : decode cJ13_bitCount_95d88 4 = .ok (.ldc2_w 314, 3) := by decide +kernel
theorem dJ13_bitCount_95d88_7 : decode cJ13_bitCount_95d88 7 = .ok (.land, 1) := by decide +kernel
theorem dJ13_bitCount_95d88_8 : decode cJ13_bitCount_95d88 8 = .ok (.lsub, 1) := by decide +kernel
theorem dJ13_bitCount_95d88_9 : decode cJ13_bitCount_95d88 9 = .ok (.lstore_n 0, 1) := by decide +kernel
theorem dJ13_bitCount_95d88_10 : decode cJ13_bitCount_95d88 10 = .ok (.lload_n 0, 1) := by decide +kernel
theorem dJ13_bitCount_95d88_11 : decode cJ13_bitCount_95d88 11 = .ok (.ldc2_w 316, 3) := by decide +kernel
theorem dJ13_bitCount_95d88_14 : decode cJ13_bitCount_95d88 14 = .ok (.land, 1) := by decide +kernel
theorem dJ13_bitCount_95d88_15 : decode cJ13_bitCount_95d88 15 = .ok (.lload_n 0, 1) := by decide +kernel
theorem dJ13_bitCount_95d88_16 : decode cJ13_bitCount_95d88 16 = .ok (.iconst 2, 1) := by decide +kernel
theorem dJ13_bitCount_95d88_17 : decode cJ13_bitCount_95d88 17 = .ok (.lushr, 1) := by decide +kernel
theorem dJ13_bitCount_95d88_18 : decode cJ13_bitCount_95d88 18 = .ok (.ldc2_w 316, 3) := by decide +kernel
theorem dJ13_bitCount_95d88_21 : decode cJ13_bitCount_95d88 21 = .ok (.land, 1) := by decide +kernel
theorem dJ13_bitCount_95d88_22 : decode cJ13_bitCount_95d88 22 = .ok (.ladd, 1) := by decide +kernel
theorem dJ13_bitCount_95d88_23 : decode cJ13_bitCount_95d88 23 = .ok (.lstore_n 0, 1) := by decide +kernel
theorem dJ13_bitCount_95d88_24 : decode cJ13_bitCount_95d88 24 = .ok (.lload_n 0, 1) := by decide +kernel
theorem dJ13_bitCount_95d88_25 : decode cJ13_bitCount_95d88 25 = .ok (.lload_n 0, 1) := by decide +kernel
theorem dJ13_bitCount_95d88_26 : decode cJ13_bitCount_95d88 26 = .ok (.iconst 4, 1) := by decide +kernel
theorem dJ13_bitCount_95d88_27 : decode cJ13_bitCount_95d88 27 = .ok (.lushr, 1) := by decide +kernel
theorem dJ13_bitCount_95d88_28 : decode cJ13_bitCount_95d88 28 = .ok (.ladd, 1) := by decide +kernel
theorem dJ13_bitCount_95d88_29 : decode cJ13_bitCount_95d88 29 = .ok (.ldc2_w 318, 3) := by decide +kernel
theorem dJ13_bitCount_95d88_32 : decode cJ13_bitCount_95d88 32 = .ok (.land, 1) := by decide +kernel
theorem dJ13_bitCount_95d88_33 : decode cJ13_bitCount_95d88 33 = .ok (.lstore_n 0, 1) := by decide +kernel
theorem dJ13_bitCount_95d88_34 : decode cJ13_bitCount_95d88 34 = .ok (.lload_n 0, 1) := by decide +kernel
theorem dJ13_bitCount_95d88_35 : decode cJ13_bitCount_95d88 35 = .ok (.lload_n 0, 1) := by decide +kernel
theorem dJ13_bitCount_95d88_36 : decode cJ13_bitCount_95d88 36 = .ok (.bipush 8, 2) := by decide +kernel
theorem dJ13_bitCount_95d88_38 : decode cJ13_bitCount_95d88 38 = .ok (.lushr, 1) := by decide +kernel
theorem dJ13_bitCount_95d88_39 : decode cJ13_bitCount_95d88 39 = .ok (.ladd, 1) := by decide +kernel
theorem dJ13_bitCount_95d88_40 : decode cJ13_bitCount_95d88 40 = .ok (.lstore_n 0, 1) := by decide +kernel
theorem dJ13_bitCount_95d88_41 : decode cJ13_bitCount_95d88 41 = .ok (.lload_n 0, 1) := by decide +kernel
theorem dJ13_bitCount_95d88_42 : decode cJ13_bitCount_95d88 42 = .ok (.lload_n 0, 1) := by decide +kernel
theorem dJ13_bitCount_95d88_43 : decode cJ13_bitCount_95d88 43 = .ok (.bipush 16, 2) := by decide +kernel
theorem dJ13_bitCount_95d88_45 : decode cJ13_bitCount_95d88 45 = .ok (.lushr, 1) := by decide +kernel
theorem dJ13_bitCount_95d88_46 : decode cJ13_bitCount_95d88 46 = .ok (.ladd, 1) := by decide +kernel
theorem dJ13_bitCount_95d88_47 : decode cJ13_bitCount_95d88 47 = .ok (.lstore_n 0, 1) := by decide +kernel
theorem dJ13_bitCount_95d88_48 : decode cJ13_bitCount_95d88 48 = .ok (.lload_n 0, 1) := by decide +kernel
theorem dJ13_bitCount_95d88_49 : decode cJ13_bitCount_95d88 49 = .ok (.lload_n 0, 1) := by decide +kernel
theorem dJ13_bitCount_95d88_50 : decode cJ13_bitCount_95d88 50 = .ok (.bipush 32, 2) := by decide +kernel
theorem dJ13_bitCount_95d88_52 : decode cJ13_bitCount_95d88 52 = .ok (.lushr, 1) := by decide +kernel
theorem dJ13_bitCount_95d88_53 : decode cJ13_bitCount_95d88 53 = .ok (.ladd, 1) := by decide +kernel
theorem dJ13_bitCount_95d88_54 : decode cJ13_bitCount_95d88 54 = .ok (.lstore_n 0, 1) := by decide +kernel
theorem dJ13_bitCount_95d88_55 : decode cJ13_bitCount_95d88 55 = .ok (.lload_n 0, 1) := by decide +kernel
theorem dJ13_bitCount_95d88_56 : decode cJ13_bitCount_95d88 56 = .ok (.l2i, 1) := by decide +kernel
theorem dJ13_bitCount_95d88_57 : decode cJ13_bitCount_95d88 57 = .ok (.bipush 127, 2) := by decide +kernel
theorem dJ13_bitCount_95d88_59 : decode cJ13_bitCount_95d88 59 = .ok (.iand, 1) := by decide +kernel
theorem dJ13_bitCount_95d88_60 : decode cJ13_bitCount_95d88 60 = .ok (.ireturn, 1) := by decide +kernel
set_option maxRecDepth 20000 in
theorem ggL_insert_X0_insert : GoodIn wsL_insert wsX0_insert := goodIn_ca (goodIn_ca (goodIn_ca (goodIn_r _ [8, 9, 10, 11, 12, 13, 14, 15, 7, 16, 17, 18, 19, 20, 21, 22, 23, 24, 25, 26, 27, 28, 29, 30, 31, 32, 33, 34, 35, 36, 37, 38, 39, 40, 41, 42, 43, 44, 45, 46, 47, 48, 49, 50, 51, 52, 53, 54, 55, 56, 57, 58, 59, 60, 61, 62, 63, 64, 65, 66, 67, 68, 69, 70, 71, 72, 73, 74, 75, 76, 77, 78, 79, 80, 81, 82, 83, 84, 85, 86, 87, 88, 89, 90, 91, 92, 93, 94, 95, 96, 97, 98, 99, 100] (by decide +kernel) (by decide +kernel)) (goodIn_sub (fun _ h => List.mem_cons_of_mem _ (List.mem_append_left _ (List.mem_append_left _ (List.mem_append_right _ h)))) (by decide +kernel))) (goodIn_sub (fun _ h => List.mem_cons_of_mem _ (List.mem_append_left _ (List.mem_append_right _ h))) (by decide +kernel))) (goodIn_sub (fun _ h => List.mem_cons_of_mem _ (List.mem_append_right _ h)) (by decide +kernel))
set_option maxRecDepth 20000 in
theorem gL_insert_X0_insert : GoodIn wsL_insert (wsV RL 7 RX0 yX0_insert wsX0_insert) := goodIn_app (goodIn_of _ (by decide +kernel)) ggL_insert_X0_insert
theorem dL_insert_0 : decode cL_insert 0 = .ok (.aload 4, 2) := by decide +kernel
theorem dL_insert_2 : decode cL_insert 2 = .ok (.iconst 0, 1) := by decide +kernel
theorem dL_insert_3 : decode cL_insert 3 = .ok (.aload_n 0, 1) := by decide +kernel
theorem dL_insert_4 : decode cL_insert 4 = .ok (.iload_n 1, 1) := by decide +kernel
theorem dL_insert_5 : decode cL_insert 5 = .ok (.iload_n 2, 1) := by decide +kernel
theorem dL_insert_6 : decode cL_insert 6 = .ok (.iload_n 3, 1) := by decide +kernel
theorem dL_insert_7 : decode cL_insert 7 = .ok (.invokevirtual 7, 3) := by decide +kernel
theorem dL_insert_10 : decode cL_insert 10 = .ok (.i2l, 1) := by decide +kernel
theorem dL_insert_11 : decode cL_insert 11 = .ok (.lastore, 1) := by decide +kernel
theorem dL_insert_12 : decode cL_insert 12 = .ok (.goto 15, 3) := by decide +kernel
theorem dL_insert_15 : decode cL_insert 15 = .ok (.astore 5, 2) := by decide +kernel
theorem dL_insert_17 : decode cL_insert 17 = .ok (.iconst 1, 1) := by decide +kernel
theorem dL_insert_18 : decode cL_insert 18 = .ok (.ireturn, 1) := by decide +kernel
theorem dL_insert_19 : decode cL_insert 19 = .ok (.astore 5, 2) := by decide +kernel
theorem dL_insert_21 : decode cL_insert 21 = .ok (.iconst 2, 1) := by decide +kernel
theorem dL_insert_22 : decode cL_insert 22 = .ok (.ireturn, 1) := by decide +kernel
theorem dL_insert_23 : decode cL_insert 23 = .ok (.astore 5, 2) := by decide +kernel
theorem dL_insert_25 : decode cL_insert 25 = .ok (.iconst 3, 1) := by decide +kernel
theorem dL_insert_26 : decode cL_insert 26 = .ok (.ireturn, 1) := by decide +kernel
theorem dL_insert_27 : decode cL_insert 27 = .ok (.iconst 0, 1) := by decide +kernel
theorem dL_insert_28 : decode cL_insert 28 = .ok (.ireturn, 1) := by decide +kernel
set_option maxRecDepth 20000 in
theorem ggL_delete_X0_delete : GoodIn wsL_delete wsX0_delete := goodIn_ca (goodIn_ca (goodIn_r _ [7, 8, 9, 10, 11, 12, 6, 13, 14, 15, 16, 17, 18, 19, 20, 21, 22, 23, 24, 25, 26, 27, 28, 29, 30, 31, 32, 33, 34, 35, 36, 37, 38, 39, 40, 41, 42, 43, 44, 45, 46, 47, 48, 49, 50, 51, 52, 53, 54, 55, 56, 57, 58, 59, 60, 61, 62, 63, 64, 65, 66, 67, 68, 69, 70, 71, 72, 73, 74, 75, 76, 77, 78, 79, 80, 81, 82, 83, 84, 85, 86, 87, 88, 89, 90, 91, 92, 93] (by decide +kernel) (by decide +kernel)) (goodIn_sub (fun _ h => List.mem_cons_of_mem _ (List.mem_append_left _ (List.mem_append_right _ h))) (by decide +kernel))) (goodIn_sub (fun _ h => List.mem_cons_of_mem _ (List.mem_append_right _ h)) (by decide +kernel))
set_option maxRecDepth 20000 in
theorem gL_delete_X0_delete : GoodIn wsL_delete (wsV RL 19 RX0 yX0_delete wsX0_delete) := goodIn_app (goodIn_of _ (by decide +kernel)) ggL_delete_X0_delete
theorem dL_delete_0 : decode cL_delete 0 = .ok (.aload_n 3, 1) := by decide +kernel
theorem dL_delete_1 : decode cL_delete 1 = .ok (.iconst 0, 1) := by decide +kernel
theorem dL_delete_2 : decode cL_delete 2 = .ok (.aload_n 0, 1) := by decide +kernel
theorem dL_delete_3 : decode cL_delete 3 = .ok (.iload_n 1, 1) := by decide +kernel
theorem dL_delete_4 : decode cL_delete 4 = .ok (.iload_n 2, 1) := by decide +kernel
theorem dL_delete_5 : decode cL_delete 5 = .ok (.invokevirtual 19, 3) := by decide +kernel
theorem dL_delete_8 : decode cL_delete 8 = .ok (.i2l, 1) := by decide +kernel
theorem dL_delete_9 : decode cL_delete 9 = .ok (.lastore, 1) := by decide +kernel
theorem dL_delete_10 : decode cL_delete 10 = .ok (.goto 11, 3) := by decide +kernel
theorem dL_delete_13 : decode cL_delete 13 = .ok (.astore 4, 2) := by decide +kernel
theorem dL_delete_15 : decode cL_delete 15 = .ok (.iconst 1, 1) := by decide +kernel
theorem dL_delete_16 : decode cL_delete 16 = .ok (.ireturn, 1) := by decide +kernel
theorem dL_delete_17 : decode cL_delete 17 = .ok (.astore 4, 2) := by decide +kernel
theorem dL_delete_19 : decode cL_delete 19 = .ok (.iconst 2, 1) := by decide +kernel
theorem dL_delete_20 : decode cL_delete 20 = .ok (.ireturn, 1) := by decide +kernel
theorem dL_delete_21 : decode cL_delete 21 = .ok (.iconst 0, 1) := by decide +kernel
theorem dL_delete_22 : decode cL_delete 22 = .ok (.ireturn, 1) := by decide +kernel
set_option maxRecDepth 20000 in
theorem ggL_learn_X0_learn : GoodIn wsL_learn wsX0_learn := goodIn_ca (goodIn_r _ [6, 7, 8, 9, 10, 5, 11, 12, 13, 14, 15, 16, 17, 18, 19, 20, 21, 22, 23, 24, 25, 26, 27, 28, 29, 30, 31, 32, 33, 34, 35, 36, 37, 38, 39] (by decide +kernel) (by decide +kernel)) (goodIn_sub (fun _ h => List.mem_cons_of_mem _ (List.mem_append_right _ h)) (by decide +kernel))
set_option maxRecDepth 20000 in
theorem gL_learn_X0_learn : GoodIn wsL_learn (wsV RL 23 RX0 yX0_learn wsX0_learn) := goodIn_app (goodIn_of _ (by decide +kernel)) ggL_learn_X0_learn
theorem dL_learn_0 : decode cL_learn 0 = .ok (.aload_n 3, 1) := by decide +kernel
theorem dL_learn_1 : decode cL_learn 1 = .ok (.iconst 0, 1) := by decide +kernel
theorem dL_learn_2 : decode cL_learn 2 = .ok (.aload_n 0, 1) := by decide +kernel
theorem dL_learn_3 : decode cL_learn 3 = .ok (.iload_n 1, 1) := by decide +kernel
theorem dL_learn_4 : decode cL_learn 4 = .ok (.iload_n 2, 1) := by decide +kernel
theorem dL_learn_5 : decode cL_learn 5 = .ok (.invokevirtual 23, 3) := by decide +kernel
theorem dL_learn_8 : decode cL_learn 8 = .ok (.i2l, 1) := by decide +kernel
theorem dL_learn_9 : decode cL_learn 9 = .ok (.lastore, 1) := by decide +kernel
theorem dL_learn_10 : decode cL_learn 10 = .ok (.goto 7, 3) := by decide +kernel
theorem dL_learn_13 : decode cL_learn 13 = .ok (.astore 4, 2) := by decide +kernel
theorem dL_learn_15 : decode cL_learn 15 = .ok (.iconst 1, 1) := by decide +kernel
theorem dL_learn_16 : decode cL_learn 16 = .ok (.ireturn, 1) := by decide +kernel
theorem dL_learn_17 : decode cL_learn 17 = .ok (.iconst 0, 1) := by decide +kernel
theorem dL_learn_18 : decode cL_learn 18 = .ok (.ireturn, 1) := by decide +kernel
set_option maxRecDepth 20000 in
theorem ggL_learnEvent_X0_learnEvent : GoodIn wsL_learnEvent wsX0_learnEvent := goodIn_ca (goodIn_r _ [6, 7, 8, 9, 5, 10, 11, 12, 13, 14, 15, 16, 17, 18, 19, 20, 21, 22, 23, 24, 25, 26, 27, 28, 29, 30, 31, 32, 33, 34, 35, 36, 37, 38, 39, 40, 41, 42, 43, 44, 45, 46, 47, 48, 49, 50, 51, 52, 53, 54, 55, 56] (by decide +kernel) (by decide +kernel)) (goodIn_sub (fun _ h => List.mem_cons_of_mem _ (List.mem_append_right _ h)) (by decide +kernel))
set_option maxRecDepth 20000 in
theorem gL_learnEvent_X0_learnEvent : GoodIn wsL_learnEvent (wsV RL 26 RX0 yX0_learnEvent wsX0_learnEvent) := goodIn_app (goodIn_of _ (by decide +kernel)) ggL_learnEvent_X0_learnEvent
theorem dL_learnEvent_0 : decode cL_learnEvent 0 = .ok (.aload_n 3, 1) := by decide +kernel
theorem dL_learnEvent_1 : decode cL_learnEvent 1 = .ok (.iconst 0, 1) := by decide +kernel
theorem dL_learnEvent_2 : decode cL_learnEvent 2 = .ok (.aload_n 0, 1) := by decide +kernel
theorem dL_learnEvent_3 : decode cL_learnEvent 3 = .ok (.iload_n 1, 1) := by decide +kernel
theorem dL_learnEvent_4 : decode cL_learnEvent 4 = .ok (.iload_n 2, 1) := by decide +kernel
theorem dL_learnEvent_5 : decode cL_learnEvent 5 = .ok (.invokevirtual 26, 3) := by decide +kernel
theorem dL_learnEvent_8 : decode cL_learnEvent 8 = .ok (.i2l, 1) := by decide +kernel
theorem dL_learnEvent_9 : decode cL_learnEvent 9 = .ok (.lastore, 1) := by decide +kernel
theorem dL_learnEvent_10 : decode cL_learnEvent 10 = .ok (.goto 7, 3) := by decide +kernel
theorem dL_learnEvent_13 : decode cL_learnEvent 13 = .ok (.astore 4, 2) := by decide +kernel
theorem dL_learnEvent_15 : decode cL_learnEvent 15 = .ok (.iconst 1, 1) := by decide +kernel
theorem dL_learnEvent_16 : decode cL_learnEvent 16 = .ok (.ireturn, 1) := by decide +kernel
theorem dL_learnEvent_17 : decode cL_learnEvent 17 = .ok (.iconst 0, 1) := by decide +kernel
theorem dL_learnEvent_18 : decode cL_learnEvent 18 = .ok (.ireturn, 1) := by decide +kernel
set_option maxRecDepth 20000 in
theorem ggL_length_X0_length : GoodIn wsL_length wsX0_length := goodIn_ca (goodIn_r _ [6, 7, 8, 9, 10, 5, 11, 12, 13, 14, 15, 16, 17, 18, 19, 20, 21, 22, 23, 24, 25, 26, 27, 28, 29, 30, 31, 32, 33, 34, 35, 36, 37, 38, 39, 40, 41, 42, 43, 44, 45, 46, 47, 48, 49, 50, 51, 52, 53, 54, 55, 56, 57, 58, 59, 60, 61, 62, 63, 64, 65, 66] (by decide +kernel) (by decide +kernel)) (goodIn_sub (fun _ h => List.mem_cons_of_mem _ (List.mem_append_right _ h)) (by decide +kernel))
set_option maxRecDepth 20000 in
theorem gL_length_X0_length : GoodIn wsL_length (wsV RL 29 RX0 yX0_length wsX0_length) := goodIn_app (goodIn_of _ (by decide +kernel)) ggL_length_X0_length
theorem dL_length_0 : decode cL_length 0 = .ok (.aload_n 2, 1) := by decide +kernel
theorem dL_length_1 : decode cL_length 1 = .ok (.iconst 0, 1) := by decide +kernel
theorem dL_length_2 : decode cL_length 2 = .ok (.aload_n 0, 1) := by decide +kernel
theorem dL_length_3 : decode cL_length 3 = .ok (.iload_n 1, 1) := by decide +kernel
theorem dL_length_4 : decode cL_length 4 = .ok (.invokevirtual 29, 3) := by decide +kernel
theorem dL_length_7 : decode cL_length 7 = .ok (.i2l, 1) := by decide +kernel
theorem dL_length_8 : decode cL_length 8 = .ok (.lastore, 1) := by decide +kernel
theorem dL_length_9 : decode cL_length 9 = .ok (.goto 6, 3) := by decide +kernel
theorem dL_length_12 : decode cL_length 12 = .ok (.astore_n 3, 1) := by decide +kernel
theorem dL_length_13 : decode cL_length 13 = .ok (.iconst 1, 1) := by decide +kernel
theorem dL_length_14 : decode cL_length 14 = .ok (.ireturn, 1) := by decide +kernel
theorem dL_length_15 : decode cL_length 15 = .ok (.iconst 0, 1) := by decide +kernel
theorem dL_length_16 : decode cL_length 16 = .ok (.ireturn, 1) := by decide +kernel
set_option maxRecDepth 20000 in
theorem ggL_letterAt_X0_letterAt : GoodIn wsL_letterAt wsX0_letterAt := goodIn_ca (goodIn_r _ [6, 7, 8, 9, 10, 11, 5, 12, 13, 14, 15, 16, 17, 18, 19, 20, 21, 22, 23, 24, 25, 26, 27, 28, 29, 30, 31, 32, 33, 34, 35, 36, 37, 38, 39, 40, 41, 42, 43, 44, 45, 46, 47, 48, 49, 50, 51, 52, 53, 54, 55, 56, 57, 58, 59, 60, 61, 62, 63, 64, 65, 66, 67, 68, 69, 70, 71, 72, 73, 74] (by decide +kernel) (by decide +kernel)) (goodIn_sub (fun _ h => List.mem_cons_of_mem _ (List.mem_append_right _ h)) (by decide +kernel))
set_option maxRecDepth 20000 in
theorem gL_letterAt_X0_letterAt : GoodIn wsL_letterAt (wsV RL 33 RX0 yX0_letterAt wsX0_letterAt) := goodIn_app (goodIn_of _ (by decide +kernel)) ggL_letterAt_X0_letterAt
theorem dL_letterAt_0 : decode cL_letterAt 0 = .ok (.aload_n 3, 1) := by decide +kernel
theorem dL_letterAt_1 : decode cL_letterAt 1 = .ok (.iconst 0, 1) := by decide +kernel
theorem dL_letterAt_2 : decode cL_letterAt 2 = .ok (.aload_n 0, 1) := by decide +kernel
theorem dL_letterAt_3 : decode cL_letterAt 3 = .ok (.iload_n 1, 1) := by decide +kernel
theorem dL_letterAt_4 : decode cL_letterAt 4 = .ok (.iload_n 2, 1) := by decide +kernel
theorem dL_letterAt_5 : decode cL_letterAt 5 = .ok (.invokevirtual 33, 3) := by decide +kernel
theorem dL_letterAt_8 : decode cL_letterAt 8 = .ok (.i2l, 1) := by decide +kernel
theorem dL_letterAt_9 : decode cL_letterAt 9 = .ok (.lastore, 1) := by decide +kernel
theorem dL_letterAt_10 : decode cL_letterAt 10 = .ok (.goto 7, 3) := by decide +kernel
theorem dL_letterAt_13 : decode cL_letterAt 13 = .ok (.astore 4, 2) := by decide +kernel
theorem dL_letterAt_15 : decode cL_letterAt 15 = .ok (.iconst 1, 1) := by decide +kernel
theorem dL_letterAt_16 : decode cL_letterAt 16 = .ok (.ireturn, 1) := by decide +kernel
theorem dL_letterAt_17 : decode cL_letterAt 17 = .ok (.iconst 0, 1) := by decide +kernel
theorem dL_letterAt_18 : decode cL_letterAt 18 = .ok (.ireturn, 1) := by decide +kernel
set_option maxRecDepth 20000 in
theorem ggL_letterByList_X0_letterByList : GoodIn wsL_letterByList wsX0_letterByList := goodIn_ca (goodIn_r _ [6, 7, 8, 9, 10, 11, 12, 5, 13, 14, 15, 16, 17, 18, 19, 20, 21, 22, 23, 24, 25, 26, 27, 28, 29, 30, 31, 32, 33, 34, 35, 36, 37, 38, 39, 40, 41, 42, 43, 44, 45, 46, 47, 48, 49, 50, 51, 52, 53, 54, 55, 56, 57, 58, 59, 60, 61, 62, 63, 64, 65, 66, 67] (by decide +kernel) (by decide +kernel)) (goodIn_sub (fun _ h => List.mem_cons_of_mem _ (List.mem_append_right _ h)) (by decide +kernel))
set_option maxRecDepth 20000 in
theorem gL_letterByList_X0_letterByList : GoodIn wsL_letterByList (wsV RL 36 RX0 yX0_letterByList wsX0_letterByList) := goodIn_app (goodIn_of _ (by decide +kernel)) ggL_letterByList_X0_letterByList
theorem dL_letterByList_0 : decode cL_letterByList 0 = .ok (.aload_n 3, 1) := by decide +kernel
theorem dL_letterByList_1 : decode cL_letterByList 1 = .ok (.iconst 0, 1) := by decide +kernel
theorem dL_letterByList_2 : decode cL_letterByList 2 = .ok (.aload_n 0, 1) := by decide +kernel
theorem dL_letterByList_3 : decode cL_letterByList 3 = .ok (.iload_n 1, 1) := by decide +kernel
theorem dL_letterByList_4 : decode cL_letterByList 4 = .ok (.iload_n 2, 1) := by decide +kernel
theorem dL_letterByList_5 : decode cL_letterByList 5 = .ok (.invokevirtual 36, 3) := by decide +kernel
theorem dL_letterByList_8 : decode cL_letterByList 8 = .ok (.i2l, 1) := by decide +kernel
theorem dL_letterByList_9 : decode cL_letterByList 9 = .ok (.lastore, 1) := by decide +kernel
theorem dL_letterByList_10 : decode cL_letterByList 10 = .ok (.goto 7, 3) := by decide +kernel
theorem dL_letterByList_13 : decode cL_letterByList 13 = .ok (.astore 4, 2) := by decide +kernel
theorem dL_letterByList_15 : decode cL_letterByList 15 = .ok (.iconst 1, 1) := by decide +kernel
theorem dL_letterByList_16 : decode cL_letterByList 16 = .ok (.ireturn, 1) := by decide +kernel
theorem dL_letterByList_17 : decode cL_letterByList 17 = .ok (.iconst 0, 1) := by decide +kernel
theorem dL_letterByList_18 : decode cL_letterByList 18 = .ok (.ireturn, 1) := by decide +kernel
set_option maxRecDepth 20000 in
theorem ggL_eventAt_X0_eventAt : GoodIn wsL_eventAt wsX0_eventAt := goodIn_ca (goodIn_r _ [6, 7, 8, 9, 10, 5, 11, 12, 13, 14, 15, 16, 17, 18, 19, 20, 21, 22, 23, 24, 25, 26, 27, 28, 29, 30, 31, 32, 33, 34, 35, 36, 37, 38, 39, 40, 41, 42, 43, 44, 45, 46, 47, 48, 49, 50, 51, 52, 53, 54, 55, 56, 57, 58, 59, 60, 61, 62, 63, 64, 65, 66, 67, 68, 69, 70, 71, 72, 73, 74] (by decide +kernel) (by decide +kernel)) (goodIn_sub (fun _ h => List.mem_cons_of_mem _ (List.mem_append_right _ h)) (by decide +kernel))
set_option maxRecDepth 20000 in
theorem gL_eventAt_X0_eventAt : GoodIn wsL_eventAt (wsV RL 39 RX0 yX0_eventAt wsX0_eventAt) := goodIn_app (goodIn_of _ (by decide +kernel)) ggL_eventAt_X0_eventAt
theorem dL_eventAt_0 : decode cL_eventAt 0 = .ok (.aload_n 3, 1) := by decide +kernel
theorem dL_eventAt_1 : decode cL_eventAt 1 = .ok (.iconst 0, 1) := by decide +kernel
theorem dL_eventAt_2 : decode cL_eventAt 2 = .ok (.aload_n 0, 1) := by decide +kernel
theorem dL_eventAt_3 : decode cL_eventAt 3 = .ok (.iload_n 1, 1) := by decide +kernel
theorem dL_eventAt_4 : decode cL_eventAt 4 = .ok (.iload_n 2, 1) := by decide +kernel
theorem dL_eventAt_5 : decode cL_eventAt 5 = .ok (.invokevirtual 39, 3) := by decide +kernel
theorem dL_eventAt_8 : decode cL_eventAt 8 = .ok (.i2l, 1) := by decide +kernel
theorem dL_eventAt_9 : decode cL_eventAt 9 = .ok (.lastore, 1) := by decide +kernel
theorem dL_eventAt_10 : decode cL_eventAt 10 = .ok (.goto 7, 3) := by decide +kernel
theorem dL_eventAt_13 : decode cL_eventAt 13 = .ok (.astore 4, 2) := by decide +kernel
theorem dL_eventAt_15 : decode cL_eventAt 15 = .ok (.iconst 1, 1) := by decide +kernel
theorem dL_eventAt_16 : decode cL_eventAt 16 = .ok (.ireturn, 1) := by decide +kernel
theorem dL_eventAt_17 : decode cL_eventAt 17 = .ok (.iconst 0, 1) := by decide +kernel
theorem dL_eventAt_18 : decode cL_eventAt 18 = .ok (.ireturn, 1) := by decide +kernel
set_option maxRecDepth 20000 in
theorem ggL_lengthOf_X0_lengthOf : GoodIn wsL_lengthOf wsX0_lengthOf := goodIn_ca (goodIn_r _ [6, 7, 8, 9, 5, 10, 11, 12, 13, 14, 15, 16, 17, 18, 19, 20, 21, 22, 23, 24, 25, 26, 27, 28, 29, 30, 31, 32, 33, 34, 35, 36, 37, 38, 39, 40, 41, 42, 43, 44, 45, 46, 47, 48, 49, 50, 51, 52, 53, 54, 55, 56, 57, 58, 59, 60, 61, 62, 63, 64, 65, 66, 67, 68, 69, 70] (by decide +kernel) (by decide +kernel)) (goodIn_sub (fun _ h => List.mem_cons_of_mem _ (List.mem_append_right _ h)) (by decide +kernel))
set_option maxRecDepth 20000 in
theorem gL_lengthOf_X0_lengthOf : GoodIn wsL_lengthOf (wsV RL 42 RX0 yX0_lengthOf wsX0_lengthOf) := goodIn_app (goodIn_of _ (by decide +kernel)) ggL_lengthOf_X0_lengthOf
theorem dL_lengthOf_0 : decode cL_lengthOf 0 = .ok (.aload_n 2, 1) := by decide +kernel
theorem dL_lengthOf_1 : decode cL_lengthOf 1 = .ok (.iconst 0, 1) := by decide +kernel
theorem dL_lengthOf_2 : decode cL_lengthOf 2 = .ok (.aload_n 0, 1) := by decide +kernel
theorem dL_lengthOf_3 : decode cL_lengthOf 3 = .ok (.iload_n 1, 1) := by decide +kernel
theorem dL_lengthOf_4 : decode cL_lengthOf 4 = .ok (.invokevirtual 42, 3) := by decide +kernel
theorem dL_lengthOf_7 : decode cL_lengthOf 7 = .ok (.i2l, 1) := by decide +kernel
theorem dL_lengthOf_8 : decode cL_lengthOf 8 = .ok (.lastore, 1) := by decide +kernel
theorem dL_lengthOf_9 : decode cL_lengthOf 9 = .ok (.goto 6, 3) := by decide +kernel
theorem dL_lengthOf_12 : decode cL_lengthOf 12 = .ok (.astore_n 3, 1) := by decide +kernel
theorem dL_lengthOf_13 : decode cL_lengthOf 13 = .ok (.iconst 1, 1) := by decide +kernel
theorem dL_lengthOf_14 : decode cL_lengthOf 14 = .ok (.ireturn, 1) := by decide +kernel
theorem dL_lengthOf_15 : decode cL_lengthOf 15 = .ok (.iconst 0, 1) := by decide +kernel
theorem dL_lengthOf_16 : decode cL_lengthOf 16 = .ok (.ireturn, 1) := by decide +kernel
set_option maxRecDepth 20000 in
theorem ggL_letterOf_X0_letterOf : GoodIn wsL_letterOf wsX0_letterOf := goodIn_ca (goodIn_r _ [6, 7, 8, 9, 10, 5, 11, 12, 13, 14, 15, 16, 17, 18, 19, 20, 21, 22, 23, 24, 25, 26, 27, 28, 29, 30, 31, 32, 33, 34, 35, 36, 37, 38, 39, 40, 41, 42, 43, 44, 45, 46, 47, 48, 49, 50, 51, 52, 53, 54, 55, 56, 57, 58, 59, 60, 61, 62, 63, 64, 65, 66, 67, 68, 69, 70, 71, 72, 73, 74, 75, 76, 77, 78] (by decide +kernel) (by decide +kernel)) (goodIn_sub (fun _ h => List.mem_cons_of_mem _ (List.mem_append_right _ h)) (by decide +kernel))
set_option maxRecDepth 20000 in
theorem gL_letterOf_X0_letterOf : GoodIn wsL_letterOf (wsV RL 45 RX0 yX0_letterOf wsX0_letterOf) := goodIn_app (goodIn_of _ (by decide +kernel)) ggL_letterOf_X0_letterOf
theorem dL_letterOf_0 : decode cL_letterOf 0 = .ok (.aload_n 3, 1) := by decide +kernel
theorem dL_letterOf_1 : decode cL_letterOf 1 = .ok (.iconst 0, 1) := by decide +kernel
theorem dL_letterOf_2 : decode cL_letterOf 2 = .ok (.aload_n 0, 1) := by decide +kernel
theorem dL_letterOf_3 : decode cL_letterOf 3 = .ok (.iload_n 1, 1) := by decide +kernel
theorem dL_letterOf_4 : decode cL_letterOf 4 = .ok (.iload_n 2, 1) := by decide +kernel
theorem dL_letterOf_5 : decode cL_letterOf 5 = .ok (.invokevirtual 45, 3) := by decide +kernel
theorem dL_letterOf_8 : decode cL_letterOf 8 = .ok (.i2l, 1) := by decide +kernel
theorem dL_letterOf_9 : decode cL_letterOf 9 = .ok (.lastore, 1) := by decide +kernel
theorem dL_letterOf_10 : decode cL_letterOf 10 = .ok (.goto 7, 3) := by decide +kernel
theorem dL_letterOf_13 : decode cL_letterOf 13 = .ok (.astore 4, 2) := by decide +kernel
theorem dL_letterOf_15 : decode cL_letterOf 15 = .ok (.iconst 1, 1) := by decide +kernel
theorem dL_letterOf_16 : decode cL_letterOf 16 = .ok (.ireturn, 1) := by decide +kernel
theorem dL_letterOf_17 : decode cL_letterOf 17 = .ok (.iconst 0, 1) := by decide +kernel
theorem dL_letterOf_18 : decode cL_letterOf 18 = .ok (.ireturn, 1) := by decide +kernel
set_option maxRecDepth 20000 in
theorem ggL_lettersBy_X0_lettersBy : GoodIn wsL_lettersBy wsX0_lettersBy := goodIn_ca (goodIn_r _ [6, 7, 8, 9, 10, 11, 12, 5, 13, 14, 15, 16, 17, 18, 19, 20, 21, 22, 23, 24, 25, 26, 27, 28, 29, 30, 31, 32, 33, 34, 35, 36, 37, 38, 39, 40, 41, 42, 43, 44, 45, 46, 47, 48, 49, 50, 51, 52, 53, 54, 55, 56, 57, 58, 59, 60, 61, 62, 63, 64, 65, 66, 67] (by decide +kernel) (by decide +kernel)) (goodIn_sub (fun _ h => List.mem_cons_of_mem _ (List.mem_append_right _ h)) (by decide +kernel))
set_option maxRecDepth 20000 in
theorem gL_lettersBy_X0_lettersBy : GoodIn wsL_lettersBy (wsV RL 48 RX0 yX0_lettersBy wsX0_lettersBy) := goodIn_app (goodIn_of _ (by decide +kernel)) ggL_lettersBy_X0_lettersBy
theorem dL_lettersBy_0 : decode cL_lettersBy 0 = .ok (.aload_n 3, 1) := by decide +kernel
theorem dL_lettersBy_1 : decode cL_lettersBy 1 = .ok (.iconst 0, 1) := by decide +kernel
theorem dL_lettersBy_2 : decode cL_lettersBy 2 = .ok (.aload_n 0, 1) := by decide +kernel
theorem dL_lettersBy_3 : decode cL_lettersBy 3 = .ok (.iload_n 1, 1) := by decide +kernel
theorem dL_lettersBy_4 : decode cL_lettersBy 4 = .ok (.iload_n 2, 1) := by decide +kernel
theorem dL_lettersBy_5 : decode cL_lettersBy 5 = .ok (.invokevirtual 48, 3) := by decide +kernel
theorem dL_lettersBy_8 : decode cL_lettersBy 8 = .ok (.i2l, 1) := by decide +kernel
theorem dL_lettersBy_9 : decode cL_lettersBy 9 = .ok (.lastore, 1) := by decide +kernel
theorem dL_lettersBy_10 : decode cL_lettersBy 10 = .ok (.goto 7, 3) := by decide +kernel
theorem dL_lettersBy_13 : decode cL_lettersBy 13 = .ok (.astore 4, 2) := by decide +kernel
theorem dL_lettersBy_15 : decode cL_lettersBy 15 = .ok (.iconst 1, 1) := by decide +kernel
theorem dL_lettersBy_16 : decode cL_lettersBy 16 = .ok (.ireturn, 1) := by decide +kernel
theorem dL_lettersBy_17 : decode cL_lettersBy 17 = .ok (.iconst 0, 1) := by decide +kernel
theorem dL_lettersBy_18 : decode cL_lettersBy 18 = .ok (.ireturn, 1) := by decide +kernel
set_option maxRecDepth 20000 in
theorem ggL_authorOf_X0_authorOf : GoodIn wsL_authorOf wsX0_authorOf := goodIn_ca (goodIn_r _ [6, 7, 8, 9, 10, 5, 11, 12, 13, 14, 15, 16, 17, 18, 19, 20, 21, 22, 23, 24, 25, 26, 27, 28, 29, 30, 31, 32] (by decide +kernel) (by decide +kernel)) (goodIn_sub (fun _ h => List.mem_cons_of_mem _ (List.mem_append_right _ h)) (by decide +kernel))
set_option maxRecDepth 20000 in
theorem gL_authorOf_X0_authorOf : GoodIn wsL_authorOf (wsV RL 51 RX0 yX0_authorOf wsX0_authorOf) := goodIn_app (goodIn_of _ (by decide +kernel)) ggL_authorOf_X0_authorOf
theorem dL_authorOf_0 : decode cL_authorOf 0 = .ok (.aload_n 2, 1) := by decide +kernel
theorem dL_authorOf_1 : decode cL_authorOf 1 = .ok (.iconst 0, 1) := by decide +kernel
theorem dL_authorOf_2 : decode cL_authorOf 2 = .ok (.aload_n 0, 1) := by decide +kernel
theorem dL_authorOf_3 : decode cL_authorOf 3 = .ok (.iload_n 1, 1) := by decide +kernel
theorem dL_authorOf_4 : decode cL_authorOf 4 = .ok (.invokevirtual 51, 3) := by decide +kernel
theorem dL_authorOf_7 : decode cL_authorOf 7 = .ok (.i2l, 1) := by decide +kernel
theorem dL_authorOf_8 : decode cL_authorOf 8 = .ok (.lastore, 1) := by decide +kernel
theorem dL_authorOf_9 : decode cL_authorOf 9 = .ok (.goto 6, 3) := by decide +kernel
theorem dL_authorOf_12 : decode cL_authorOf 12 = .ok (.astore_n 3, 1) := by decide +kernel
theorem dL_authorOf_13 : decode cL_authorOf 13 = .ok (.iconst 1, 1) := by decide +kernel
theorem dL_authorOf_14 : decode cL_authorOf 14 = .ok (.ireturn, 1) := by decide +kernel
theorem dL_authorOf_15 : decode cL_authorOf 15 = .ok (.iconst 0, 1) := by decide +kernel
theorem dL_authorOf_16 : decode cL_authorOf 16 = .ok (.ireturn, 1) := by decide +kernel
set_option maxRecDepth 20000 in
theorem ggL_parents_X0_parents : GoodIn wsL_parents wsX0_parents := goodIn_ca (goodIn_r _ [6, 7, 8, 9, 10, 5, 11, 12, 13, 14, 15, 16, 17, 18, 19, 20, 21, 22, 23, 24, 25, 26, 27, 28, 29, 30, 31, 32] (by decide +kernel) (by decide +kernel)) (goodIn_sub (fun _ h => List.mem_cons_of_mem _ (List.mem_append_right _ h)) (by decide +kernel))
set_option maxRecDepth 20000 in
theorem gL_parents_X0_parents : GoodIn wsL_parents (wsV RL 54 RX0 yX0_parents wsX0_parents) := goodIn_app (goodIn_of _ (by decide +kernel)) ggL_parents_X0_parents
theorem dL_parents_0 : decode cL_parents 0 = .ok (.aload_n 2, 1) := by decide +kernel
theorem dL_parents_1 : decode cL_parents 1 = .ok (.iconst 0, 1) := by decide +kernel
theorem dL_parents_2 : decode cL_parents 2 = .ok (.aload_n 0, 1) := by decide +kernel
theorem dL_parents_3 : decode cL_parents 3 = .ok (.iload_n 1, 1) := by decide +kernel
theorem dL_parents_4 : decode cL_parents 4 = .ok (.invokevirtual 54, 3) := by decide +kernel
theorem dL_parents_7 : decode cL_parents 7 = .ok (.lastore, 1) := by decide +kernel
theorem dL_parents_8 : decode cL_parents 8 = .ok (.goto 6, 3) := by decide +kernel
theorem dL_parents_11 : decode cL_parents 11 = .ok (.astore_n 3, 1) := by decide +kernel
theorem dL_parents_12 : decode cL_parents 12 = .ok (.iconst 1, 1) := by decide +kernel
theorem dL_parents_13 : decode cL_parents 13 = .ok (.ireturn, 1) := by decide +kernel
theorem dL_parents_14 : decode cL_parents 14 = .ok (.iconst 0, 1) := by decide +kernel
theorem dL_parents_15 : decode cL_parents 15 = .ok (.ireturn, 1) := by decide +kernel
set_option maxRecDepth 20000 in
theorem ggL_isLater_X0_isLater : GoodIn wsL_isLater wsX0_isLater := goodIn_ca (goodIn_r _ [6, 7, 8, 9, 10, 5, 11, 12, 13, 14, 15, 16, 17, 18, 19, 20, 21, 22, 23, 24, 25, 26, 27, 28, 29, 30, 31, 32, 33, 34, 35, 36, 37, 38] (by decide +kernel) (by decide +kernel)) (goodIn_sub (fun _ h => List.mem_cons_of_mem _ (List.mem_append_right _ h)) (by decide +kernel))
set_option maxRecDepth 20000 in
theorem gL_isLater_X0_isLater : GoodIn wsL_isLater (wsV RL 58 RX0 yX0_isLater wsX0_isLater) := goodIn_app (goodIn_of _ (by decide +kernel)) ggL_isLater_X0_isLater
theorem dL_isLater_0 : decode cL_isLater 0 = .ok (.aload_n 3, 1) := by decide +kernel
theorem dL_isLater_1 : decode cL_isLater 1 = .ok (.iconst 0, 1) := by decide +kernel
theorem dL_isLater_2 : decode cL_isLater 2 = .ok (.aload_n 0, 1) := by decide +kernel
theorem dL_isLater_3 : decode cL_isLater 3 = .ok (.iload_n 1, 1) := by decide +kernel
theorem dL_isLater_4 : decode cL_isLater 4 = .ok (.iload_n 2, 1) := by decide +kernel
theorem dL_isLater_5 : decode cL_isLater 5 = .ok (.invokevirtual 58, 3) := by decide +kernel
theorem dL_isLater_8 : decode cL_isLater 8 = .ok (.ifCond .eq 7, 3) := by decide +kernel
theorem dL_isLater_11 : decode cL_isLater 11 = .ok (.lconst 1, 1) := by decide +kernel
theorem dL_isLater_12 : decode cL_isLater 12 = .ok (.goto 4, 3) := by decide +kernel
theorem dL_isLater_15 : decode cL_isLater 15 = .ok (.lconst 0, 1) := by decide +kernel
theorem dL_isLater_16 : decode cL_isLater 16 = .ok (.lastore, 1) := by decide +kernel
theorem dL_isLater_17 : decode cL_isLater 17 = .ok (.goto 7, 3) := by decide +kernel
theorem dL_isLater_20 : decode cL_isLater 20 = .ok (.astore 4, 2) := by decide +kernel
theorem dL_isLater_22 : decode cL_isLater 22 = .ok (.iconst 1, 1) := by decide +kernel
theorem dL_isLater_23 : decode cL_isLater 23 = .ok (.ireturn, 1) := by decide +kernel
theorem dL_isLater_24 : decode cL_isLater 24 = .ok (.iconst 0, 1) := by decide +kernel
theorem dL_isLater_25 : decode cL_isLater 25 = .ok (.ireturn, 1) := by decide +kernel
set_option maxRecDepth 20000 in
theorem ggL_version_X0_version : GoodIn wsL_version wsX0_version := goodIn_ca (goodIn_r _ [6, 7, 8, 9, 10, 5, 11, 12, 13, 14, 15, 16, 17, 18, 19, 20, 21, 22, 23, 24, 25, 26, 27] (by decide +kernel) (by decide +kernel)) (goodIn_sub (fun _ h => List.mem_cons_of_mem _ (List.mem_append_right _ h)) (by decide +kernel))
set_option maxRecDepth 20000 in
theorem gL_version_X0_version : GoodIn wsL_version (wsV RL 62 RX0 yX0_version wsX0_version) := goodIn_app (goodIn_of _ (by decide +kernel)) ggL_version_X0_version
theorem dL_version_0 : decode cL_version 0 = .ok (.aload_n 2, 1) := by decide +kernel
theorem dL_version_1 : decode cL_version 1 = .ok (.iconst 0, 1) := by decide +kernel
theorem dL_version_2 : decode cL_version 2 = .ok (.aload_n 0, 1) := by decide +kernel
theorem dL_version_3 : decode cL_version 3 = .ok (.iload_n 1, 1) := by decide +kernel
theorem dL_version_4 : decode cL_version 4 = .ok (.invokevirtual 62, 3) := by decide +kernel
theorem dL_version_7 : decode cL_version 7 = .ok (.lastore, 1) := by decide +kernel
theorem dL_version_8 : decode cL_version 8 = .ok (.goto 6, 3) := by decide +kernel
theorem dL_version_11 : decode cL_version 11 = .ok (.astore_n 3, 1) := by decide +kernel
theorem dL_version_12 : decode cL_version 12 = .ok (.iconst 1, 1) := by decide +kernel
theorem dL_version_13 : decode cL_version 13 = .ok (.ireturn, 1) := by decide +kernel
theorem dL_version_14 : decode cL_version 14 = .ok (.iconst 0, 1) := by decide +kernel
theorem dL_version_15 : decode cL_version 15 = .ok (.ireturn, 1) := by decide +kernel
set_option maxRecDepth 20000 in
theorem ggL_heads_X0_heads : GoodIn wsL_heads wsX0_heads := goodIn_ca (goodIn_r _ [6, 7, 8, 9, 10, 5, 11, 12, 13, 14, 15, 16, 17, 18, 19, 20, 21, 22, 23, 24, 25, 26, 27, 28, 29, 30, 31, 32, 33, 34, 35, 36, 37, 38, 39, 40] (by decide +kernel) (by decide +kernel)) (goodIn_sub (fun _ h => List.mem_cons_of_mem _ (List.mem_append_right _ h)) (by decide +kernel))
set_option maxRecDepth 20000 in
theorem gL_heads_X0_heads : GoodIn wsL_heads (wsV RL 65 RX0 yX0_heads wsX0_heads) := goodIn_app (goodIn_of _ (by decide +kernel)) ggL_heads_X0_heads
theorem dL_heads_0 : decode cL_heads 0 = .ok (.aload_n 2, 1) := by decide +kernel
theorem dL_heads_1 : decode cL_heads 1 = .ok (.iconst 0, 1) := by decide +kernel
theorem dL_heads_2 : decode cL_heads 2 = .ok (.aload_n 0, 1) := by decide +kernel
theorem dL_heads_3 : decode cL_heads 3 = .ok (.iload_n 1, 1) := by decide +kernel
theorem dL_heads_4 : decode cL_heads 4 = .ok (.invokevirtual 65, 3) := by decide +kernel
theorem dL_heads_7 : decode cL_heads 7 = .ok (.lastore, 1) := by decide +kernel
theorem dL_heads_8 : decode cL_heads 8 = .ok (.goto 6, 3) := by decide +kernel
theorem dL_heads_11 : decode cL_heads 11 = .ok (.astore_n 3, 1) := by decide +kernel
theorem dL_heads_12 : decode cL_heads 12 = .ok (.iconst 1, 1) := by decide +kernel
theorem dL_heads_13 : decode cL_heads 13 = .ok (.ireturn, 1) := by decide +kernel
theorem dL_heads_14 : decode cL_heads 14 = .ok (.iconst 0, 1) := by decide +kernel
theorem dL_heads_15 : decode cL_heads 15 = .ok (.ireturn, 1) := by decide +kernel
set_option maxRecDepth 20000 in
theorem ggL_commonHeads_X0_commonHeads : GoodIn wsL_commonHeads wsX0_commonHeads := goodIn_ca (goodIn_r _ [6, 7, 8, 9, 10, 5, 11, 12, 13, 14, 15, 16, 17, 18, 19, 20, 21, 22, 23, 24, 25, 26, 27, 28, 29, 30, 31, 32, 33, 34, 35, 36, 37, 38, 39, 40] (by decide +kernel) (by decide +kernel)) (goodIn_sub (fun _ h => List.mem_cons_of_mem _ (List.mem_append_right _ h)) (by decide +kernel))
set_option maxRecDepth 20000 in
theorem gL_commonHeads_X0_commonHeads : GoodIn wsL_commonHeads (wsV RL 68 RX0 yX0_commonHeads wsX0_commonHeads) := goodIn_app (goodIn_of _ (by decide +kernel)) ggL_commonHeads_X0_commonHeads
theorem dL_commonHeads_0 : decode cL_commonHeads 0 = .ok (.aload_n 3, 1) := by decide +kernel
theorem dL_commonHeads_1 : decode cL_commonHeads 1 = .ok (.iconst 0, 1) := by decide +kernel
theorem dL_commonHeads_2 : decode cL_commonHeads 2 = .ok (.aload_n 0, 1) := by decide +kernel
theorem dL_commonHeads_3 : decode cL_commonHeads 3 = .ok (.iload_n 1, 1) := by decide +kernel
theorem dL_commonHeads_4 : decode cL_commonHeads 4 = .ok (.iload_n 2, 1) := by decide +kernel
theorem dL_commonHeads_5 : decode cL_commonHeads 5 = .ok (.invokevirtual 68, 3) := by decide +kernel
theorem dL_commonHeads_8 : decode cL_commonHeads 8 = .ok (.lastore, 1) := by decide +kernel
theorem dL_commonHeads_9 : decode cL_commonHeads 9 = .ok (.goto 7, 3) := by decide +kernel
theorem dL_commonHeads_12 : decode cL_commonHeads 12 = .ok (.astore 4, 2) := by decide +kernel
theorem dL_commonHeads_14 : decode cL_commonHeads 14 = .ok (.iconst 1, 1) := by decide +kernel
theorem dL_commonHeads_15 : decode cL_commonHeads 15 = .ok (.ireturn, 1) := by decide +kernel
theorem dL_commonHeads_16 : decode cL_commonHeads 16 = .ok (.iconst 0, 1) := by decide +kernel
theorem dL_commonHeads_17 : decode cL_commonHeads 17 = .ok (.ireturn, 1) := by decide +kernel
set_option maxRecDepth 20000 in
theorem ggL_concurrent_X0_concurrent : GoodIn wsL_concurrent wsX0_concurrent := goodIn_ca (goodIn_r _ [6, 7, 8, 9, 10, 11, 12, 5, 13, 14, 15, 16, 17, 18, 19, 20, 21, 22, 23, 24, 25, 26, 27, 28, 29, 30, 31, 32, 33, 34, 35, 36, 37, 38, 39, 40, 41, 42, 43, 44, 45, 46, 47, 48, 49, 50, 51, 52] (by decide +kernel) (by decide +kernel)) (goodIn_sub (fun _ h => List.mem_cons_of_mem _ (List.mem_append_right _ h)) (by decide +kernel))
set_option maxRecDepth 20000 in
theorem gL_concurrent_X0_concurrent : GoodIn wsL_concurrent (wsV RL 72 RX0 yX0_concurrent wsX0_concurrent) := goodIn_app (goodIn_of _ (by decide +kernel)) ggL_concurrent_X0_concurrent
theorem dL_concurrent_0 : decode cL_concurrent 0 = .ok (.aload_n 2, 1) := by decide +kernel
theorem dL_concurrent_1 : decode cL_concurrent 1 = .ok (.iconst 0, 1) := by decide +kernel
theorem dL_concurrent_2 : decode cL_concurrent 2 = .ok (.aload_n 0, 1) := by decide +kernel
theorem dL_concurrent_3 : decode cL_concurrent 3 = .ok (.iload_n 1, 1) := by decide +kernel
theorem dL_concurrent_4 : decode cL_concurrent 4 = .ok (.invokevirtual 72, 3) := by decide +kernel
theorem dL_concurrent_7 : decode cL_concurrent 7 = .ok (.i2l, 1) := by decide +kernel
theorem dL_concurrent_8 : decode cL_concurrent 8 = .ok (.lastore, 1) := by decide +kernel
theorem dL_concurrent_9 : decode cL_concurrent 9 = .ok (.goto 6, 3) := by decide +kernel
theorem dL_concurrent_12 : decode cL_concurrent 12 = .ok (.astore_n 3, 1) := by decide +kernel
theorem dL_concurrent_13 : decode cL_concurrent 13 = .ok (.iconst 1, 1) := by decide +kernel
theorem dL_concurrent_14 : decode cL_concurrent 14 = .ok (.ireturn, 1) := by decide +kernel
theorem dL_concurrent_15 : decode cL_concurrent 15 = .ok (.iconst 0, 1) := by decide +kernel
theorem dL_concurrent_16 : decode cL_concurrent 16 = .ok (.ireturn, 1) := by decide +kernel
set_option maxRecDepth 20000 in
theorem ggL_critical_X0_critical : GoodIn wsL_critical wsX0_critical := goodIn_ca (goodIn_r _ [6, 7, 8, 9, 10, 5, 11, 12, 13, 14, 15, 16, 17, 18, 19, 20, 21, 22, 23, 24, 25, 26, 27, 28, 29, 30, 31, 32, 33, 34, 35, 36, 37, 38, 39, 40, 41, 42, 43, 44, 45, 46, 47, 48, 49] (by decide +kernel) (by decide +kernel)) (goodIn_sub (fun _ h => List.mem_cons_of_mem _ (List.mem_append_right _ h)) (by decide +kernel))
set_option maxRecDepth 20000 in
theorem gL_critical_X0_critical : GoodIn wsL_critical (wsV RL 75 RX0 yX0_critical wsX0_critical) := goodIn_app (goodIn_of _ (by decide +kernel)) ggL_critical_X0_critical
theorem dL_critical_0 : decode cL_critical 0 = .ok (.aload_n 2, 1) := by decide +kernel
theorem dL_critical_1 : decode cL_critical 1 = .ok (.iconst 0, 1) := by decide +kernel
theorem dL_critical_2 : decode cL_critical 2 = .ok (.aload_n 0, 1) := by decide +kernel
theorem dL_critical_3 : decode cL_critical 3 = .ok (.iload_n 1, 1) := by decide +kernel
theorem dL_critical_4 : decode cL_critical 4 = .ok (.invokevirtual 75, 3) := by decide +kernel
theorem dL_critical_7 : decode cL_critical 7 = .ok (.lastore, 1) := by decide +kernel
theorem dL_critical_8 : decode cL_critical 8 = .ok (.goto 6, 3) := by decide +kernel
theorem dL_critical_11 : decode cL_critical 11 = .ok (.astore_n 3, 1) := by decide +kernel
theorem dL_critical_12 : decode cL_critical 12 = .ok (.iconst 1, 1) := by decide +kernel
theorem dL_critical_13 : decode cL_critical 13 = .ok (.ireturn, 1) := by decide +kernel
theorem dL_critical_14 : decode cL_critical 14 = .ok (.iconst 0, 1) := by decide +kernel
theorem dL_critical_15 : decode cL_critical 15 = .ok (.ireturn, 1) := by decide +kernel
set_option maxRecDepth 20000 in
theorem ggL_toReplay_X0_toReplay : GoodIn wsL_toReplay wsX0_toReplay := goodIn_ca (goodIn_r _ [6, 7, 8, 9, 10, 11, 12, 5, 13, 14, 15, 16, 17, 18, 19, 20, 21, 22, 23, 24, 25, 26, 27, 28, 29, 30, 31, 32, 33, 34, 35, 36, 37, 38, 39, 40, 41, 42, 43, 44, 45, 46, 47, 48, 49, 50, 51, 52, 53, 54, 55, 56] (by decide +kernel) (by decide +kernel)) (goodIn_sub (fun _ h => List.mem_cons_of_mem _ (List.mem_append_right _ h)) (by decide +kernel))
set_option maxRecDepth 20000 in
theorem gL_toReplay_X0_toReplay : GoodIn wsL_toReplay (wsV RL 78 RX0 yX0_toReplay wsX0_toReplay) := goodIn_app (goodIn_of _ (by decide +kernel)) ggL_toReplay_X0_toReplay
theorem dL_toReplay_0 : decode cL_toReplay 0 = .ok (.aload_n 2, 1) := by decide +kernel
theorem dL_toReplay_1 : decode cL_toReplay 1 = .ok (.iconst 0, 1) := by decide +kernel
theorem dL_toReplay_2 : decode cL_toReplay 2 = .ok (.aload_n 0, 1) := by decide +kernel
theorem dL_toReplay_3 : decode cL_toReplay 3 = .ok (.iload_n 1, 1) := by decide +kernel
theorem dL_toReplay_4 : decode cL_toReplay 4 = .ok (.invokevirtual 78, 3) := by decide +kernel
theorem dL_toReplay_7 : decode cL_toReplay 7 = .ok (.i2l, 1) := by decide +kernel
theorem dL_toReplay_8 : decode cL_toReplay 8 = .ok (.lastore, 1) := by decide +kernel
theorem dL_toReplay_9 : decode cL_toReplay 9 = .ok (.goto 6, 3) := by decide +kernel
theorem dL_toReplay_12 : decode cL_toReplay 12 = .ok (.astore_n 3, 1) := by decide +kernel
theorem dL_toReplay_13 : decode cL_toReplay 13 = .ok (.iconst 1, 1) := by decide +kernel
theorem dL_toReplay_14 : decode cL_toReplay 14 = .ok (.ireturn, 1) := by decide +kernel
theorem dL_toReplay_15 : decode cL_toReplay 15 = .ok (.iconst 0, 1) := by decide +kernel
theorem dL_toReplay_16 : decode cL_toReplay 16 = .ok (.ireturn, 1) := by decide +kernel
set_option maxRecDepth 20000 in
theorem ggL_runs_X0_runs : GoodIn wsL_runs wsX0_runs := goodIn_ca (goodIn_r _ [6, 7, 8, 9, 10, 11, 5, 12, 13, 14, 15, 16, 17, 18, 19, 20, 21, 22, 23, 24, 25, 26, 27, 28, 29, 30, 31, 32, 33, 34, 35, 36, 37, 38, 39, 40, 41, 42, 43, 44, 45, 46, 47, 48, 49, 50] (by decide +kernel) (by decide +kernel)) (goodIn_sub (fun _ h => List.mem_cons_of_mem _ (List.mem_append_right _ h)) (by decide +kernel))
set_option maxRecDepth 20000 in
theorem gL_runs_X0_runs : GoodIn wsL_runs (wsV RL 81 RX0 yX0_runs wsX0_runs) := goodIn_app (goodIn_of _ (by decide +kernel)) ggL_runs_X0_runs
theorem dL_runs_0 : decode cL_runs 0 = .ok (.aload_n 2, 1) := by decide +kernel
theorem dL_runs_1 : decode cL_runs 1 = .ok (.iconst 0, 1) := by decide +kernel
theorem dL_runs_2 : decode cL_runs 2 = .ok (.aload_n 0, 1) := by decide +kernel
theorem dL_runs_3 : decode cL_runs 3 = .ok (.iload_n 1, 1) := by decide +kernel
theorem dL_runs_4 : decode cL_runs 4 = .ok (.invokevirtual 81, 3) := by decide +kernel
theorem dL_runs_7 : decode cL_runs 7 = .ok (.i2l, 1) := by decide +kernel
theorem dL_runs_8 : decode cL_runs 8 = .ok (.lastore, 1) := by decide +kernel
theorem dL_runs_9 : decode cL_runs 9 = .ok (.goto 6, 3) := by decide +kernel
theorem dL_runs_12 : decode cL_runs 12 = .ok (.astore_n 3, 1) := by decide +kernel
theorem dL_runs_13 : decode cL_runs 13 = .ok (.iconst 1, 1) := by decide +kernel
theorem dL_runs_14 : decode cL_runs 14 = .ok (.ireturn, 1) := by decide +kernel
theorem dL_runs_15 : decode cL_runs 15 = .ok (.iconst 0, 1) := by decide +kernel
theorem dL_runs_16 : decode cL_runs 16 = .ok (.ireturn, 1) := by decide +kernel
end
section
set_option maxRecDepth 20000 in
theorem ggL_law_X0_init : GoodIn wsL_law wsX0_init := goodIn_r _ [9, 10, 11, 12, 13, 14, 15, 16, 17, 6, 18, 19, 20, 21, 22, 23, 24, 25, 26, 27, 468, 469, 470, 471, 472, 473, 474, 475, 476, 477, 478, 479, 480, 481] (by decide +kernel) (by decide +kernel)
set_option maxRecDepth 20000 in
theorem gL_law_X0_init : GoodIn wsL_law (wsX0_init) := ggL_law_X0_init
set_option maxRecDepth 20000 in
theorem ggL_law_X1_init : GoodIn wsL_law wsX1_init := goodIn_r _ [30, 31, 11, 12, 14, 32, 33, 34, 6, 35, 36, 37, 38, 482, 483, 484, 485, 486, 487, 488, 489, 490, 491] (by decide +kernel) (by decide +kernel)
set_option maxRecDepth 20000 in
theorem gL_law_X1_init : GoodIn wsL_law (wsX1_init) := ggL_law_X1_init
set_option maxRecDepth 20000 in
theorem ggL_law_L_insert : GoodIn wsL_law wsL_insert := goodIn_ca (goodIn_ca (goodIn_ca (goodIn_r _ [42, 43, 44, 45, 46, 47, 48, 2, 49, 50, 51, 21, 25, 52, 53, 54, 55, 56, 57, 58, 59, 60, 61, 22, 26, 24, 23, 62, 63, 64, 65, 13, 17, 66, 67, 68, 69, 70, 71, 72, 73, 74, 75, 76, 16, 77, 78, 79, 80, 81, 82, 83, 84, 85, 86, 87, 88, 89, 90, 91, 92, 93, 94, 95, 96, 97, 98, 99, 100, 101, 102, 15, 18, 19, 103, 104, 105, 106, 107, 108, 109, 110, 20, 111, 112, 113, 114, 468, 469, 470, 471, 472, 473, 474, 475, 476, 477, 478, 479, 480, 481] (by decide +kernel) (by decide +kernel)) (goodIn_sub (fun _ h => List.mem_append_left _ (List.mem_append_left _ (List.mem_append_right _ h))) (by decide +kernel))) (goodIn_sub (fun _ h => List.mem_append_left _ (List.mem_append_right _ h)) (by decide +kernel))) (goodIn_sub (fun _ h => List.mem_append_right _ h) (by decide +kernel))
set_option maxRecDepth 20000 in
theorem gL_law_L_insert : GoodIn wsL_law (va_wsS RL 88 yL_insert wsL_insert) := goodIn_app (goodIn_of _ (by decide +kernel)) ggL_law_L_insert
set_option maxRecDepth 20000 in
theorem ggL_law_X1_insert : GoodIn wsL_law wsX1_insert := goodIn_r _ [118, 119, 120, 38, 121, 122, 123, 5, 124, 37, 125, 126, 127, 128, 129, 130, 131, 132, 133, 134, 33, 34, 135, 136, 137, 138, 139, 140, 141, 142, 143, 144, 145, 146, 32, 35, 36, 147, 148, 149, 150, 151, 482, 483, 484, 485, 486, 487, 488, 489, 490, 491] (by decide +kernel) (by decide +kernel)
set_option maxRecDepth 20000 in
theorem gL_law_X1_insert : GoodIn wsL_law (wsV RL 93 RX1 yX1_insert wsX1_insert) := goodIn_app (goodIn_of _ (by decide +kernel)) ggL_law_X1_insert
set_option maxRecDepth 20000 in
theorem ggL_law_X1_thrown : GoodIn wsL_law wsX1_thrown := goodIn_r _ [155, 142, 482, 483, 484, 485, 486, 487, 488, 489, 490, 491] (by decide +kernel) (by decide +kernel)
set_option maxRecDepth 20000 in
theorem gL_law_X1_thrown : GoodIn wsL_law (wsV RL 94 RX1 yX1_thrown wsX1_thrown) := goodIn_app (goodIn_of _ (by decide +kernel)) ggL_law_X1_thrown
set_option maxRecDepth 20000 in
theorem ggL_law_L_delete : GoodIn wsL_law wsL_delete := goodIn_ca (goodIn_ca (goodIn_r _ [158, 43, 45, 159, 160, 161, 2, 162, 21, 25, 52, 53, 54, 55, 56, 57, 58, 59, 60, 61, 22, 26, 24, 23, 62, 63, 64, 65, 13, 17, 66, 67, 68, 69, 70, 71, 72, 73, 74, 75, 76, 16, 77, 78, 79, 80, 81, 82, 83, 84, 85, 86, 87, 88, 89, 90, 91, 92, 93, 94, 95, 96, 97, 98, 99, 100, 101, 102, 15, 18, 19, 103, 104, 105, 106, 107, 108, 109, 110, 20, 468, 469, 470, 471, 472, 473, 474, 475, 476, 477, 478, 479, 480, 481] (by decide +kernel) (by decide +kernel)) (goodIn_sub (fun _ h => List.mem_append_left _ (List.mem_append_right _ h)) (by decide +kernel))) (goodIn_sub (fun _ h => List.mem_append_right _ h) (by decide +kernel))
set_option maxRecDepth 20000 in
theorem gL_law_L_delete : GoodIn wsL_law (va_wsS RL 98 yL_delete wsL_delete) := goodIn_app (goodIn_of _ (by decide +kernel)) ggL_law_L_delete
set_option maxRecDepth 20000 in
theorem ggL_law_X1_delete : GoodIn wsL_law wsX1_delete := goodIn_r _ [166, 119, 120, 38, 121, 122, 123, 5, 124, 37, 125, 126, 127, 128, 129, 130, 131, 132, 133, 134, 33, 34, 135, 136, 137, 167, 168, 169, 170, 142, 143, 144, 145, 146, 32, 35, 36, 147, 148, 149, 150, 151, 482, 483, 484, 485, 486, 487, 488, 489, 490, 491] (by decide +kernel) (by decide +kernel)
set_option maxRecDepth 20000 in
theorem gL_law_X1_delete : GoodIn wsL_law (wsV RL 101 RX1 yX1_delete wsX1_delete) := goodIn_app (goodIn_of _ (by decide +kernel)) ggL_law_X1_delete
set_option maxRecDepth 20000 in
theorem ggL_law_L_learn : GoodIn wsL_law wsL_learn := goodIn_ca (goodIn_r _ [173, 43, 174, 175, 176, 2, 177, 21, 52, 53, 54, 55, 56, 57, 178, 179, 180, 181, 66, 182, 183, 184, 185, 186, 187, 188, 468, 469, 470, 471, 472, 473, 474, 475, 476, 477, 478, 479, 480, 481] (by decide +kernel) (by decide +kernel)) (goodIn_sub (fun _ h => List.mem_append_left _ (List.mem_append_right _ h)) (by decide +kernel))
set_option maxRecDepth 20000 in
theorem gL_law_L_learn : GoodIn wsL_law (va_wsS RL 102 yL_learn wsL_learn) := goodIn_app (goodIn_of _ (by decide +kernel)) ggL_law_L_learn
set_option maxRecDepth 20000 in
theorem ggL_law_X1_learn : GoodIn wsL_law wsX1_learn := goodIn_r _ [192, 37, 125, 126, 5, 127, 128, 129, 130, 193, 194, 195, 196, 142, 197, 198, 199, 200, 201, 202, 203, 204, 120, 135, 136, 137, 482, 483, 484, 485, 486, 487, 488, 489, 490, 491] (by decide +kernel) (by decide +kernel)
set_option maxRecDepth 20000 in
theorem gL_law_X1_learn : GoodIn wsL_law (wsV RL 104 RX1 yX1_learn wsX1_learn) := goodIn_app (goodIn_of _ (by decide +kernel)) ggL_law_X1_learn
set_option maxRecDepth 20000 in
theorem ggL_law_L_learnEvent : GoodIn wsL_law wsL_learnEvent := goodIn_ca (goodIn_r _ [207, 43, 208, 209, 210, 2, 211, 52, 53, 54, 55, 56, 57, 212, 213, 214, 215, 81, 82, 83, 84, 13, 216, 217, 218, 219, 19, 70, 71, 72, 178, 179, 180, 181, 21, 66, 182, 183, 184, 185, 186, 187, 188, 468, 469, 470, 471, 472, 473, 474, 475, 476, 477, 478, 479, 480, 481] (by decide +kernel) (by decide +kernel)) (goodIn_sub (fun _ h => List.mem_append_left _ (List.mem_append_right _ h)) (by decide +kernel))
set_option maxRecDepth 20000 in
theorem gL_law_L_learnEvent : GoodIn wsL_law (va_wsS RL 105 yL_learnEvent wsL_learnEvent) := goodIn_app (goodIn_of _ (by decide +kernel)) ggL_law_L_learnEvent
set_option maxRecDepth 20000 in
theorem ggL_law_X1_learnEvent : GoodIn wsL_law wsX1_learnEvent := goodIn_r _ [223, 125, 126, 5, 127, 128, 129, 130, 224, 225, 226, 227, 120, 193, 194, 195, 196, 142, 228, 229, 230, 231, 36, 197, 198, 199, 200, 37, 201, 202, 203, 204, 135, 136, 137, 482, 483, 484, 485, 486, 487, 488, 489, 490, 491] (by decide +kernel) (by decide +kernel)
set_option maxRecDepth 20000 in
theorem gL_law_X1_learnEvent : GoodIn wsL_law (wsV RL 107 RX1 yX1_learnEvent wsX1_learnEvent) := goodIn_app (goodIn_of _ (by decide +kernel)) ggL_law_X1_learnEvent
set_option maxRecDepth 20000 in
theorem ggL_law_X0_events : GoodIn wsL_law wsX0_events := goodIn_r _ [235, 13, 468, 469, 470, 471, 472, 473, 474, 475, 476, 477, 478, 479, 480, 481] (by decide +kernel) (by decide +kernel)
set_option maxRecDepth 20000 in
theorem gL_law_X0_events : GoodIn wsL_law (wsV RL 108 RX0 yX0_events wsX0_events) := goodIn_app (goodIn_of _ (by decide +kernel)) ggL_law_X0_events
set_option maxRecDepth 20000 in
theorem ggL_law_X1_events : GoodIn wsL_law wsX1_events := goodIn_r _ [239, 142, 120, 482, 483, 484, 485, 486, 487, 488, 489, 490, 491] (by decide +kernel) (by decide +kernel)
set_option maxRecDepth 20000 in
theorem gL_law_X1_events : GoodIn wsL_law (wsV RL 111 RX1 yX1_events wsX1_events) := goodIn_app (goodIn_of _ (by decide +kernel)) ggL_law_X1_events
set_option maxRecDepth 20000 in
theorem ggL_law_L_length : GoodIn wsL_law wsL_length := goodIn_ca (goodIn_r _ [242, 43, 243, 244, 245, 2, 246, 21, 52, 53, 54, 55, 56, 57, 58, 59, 60, 61, 22, 26, 24, 23, 62, 63, 64, 65, 13, 17, 66, 67, 68, 69, 70, 71, 72, 73, 74, 75, 76, 16, 77, 78, 79, 80, 81, 82, 83, 84, 85, 86, 87, 88, 25, 468, 469, 470, 471, 472, 473, 474, 475, 476, 477, 478, 479, 480, 481] (by decide +kernel) (by decide +kernel)) (goodIn_sub (fun _ h => List.mem_append_left _ (List.mem_append_right _ h)) (by decide +kernel))
set_option maxRecDepth 20000 in
theorem gL_law_L_length : GoodIn wsL_law (va_wsS RL 112 yL_length wsL_length) := goodIn_app (goodIn_of _ (by decide +kernel)) ggL_law_L_length
set_option maxRecDepth 20000 in
theorem ggL_law_X1_length : GoodIn wsL_law wsX1_length := goodIn_r _ [250, 119, 121, 122, 123, 5, 124, 37, 125, 126, 127, 128, 129, 130, 131, 132, 133, 134, 120, 33, 34, 38, 135, 136, 137, 193, 194, 195, 196, 142, 482, 483, 484, 485, 486, 487, 488, 489, 490, 491] (by decide +kernel) (by decide +kernel)
set_option maxRecDepth 20000 in
theorem gL_law_X1_length : GoodIn wsL_law (wsV RL 115 RX1 yX1_length wsX1_length) := goodIn_app (goodIn_of _ (by decide +kernel)) ggL_law_X1_length
set_option maxRecDepth 20000 in
theorem ggL_law_L_letterAt : GoodIn wsL_law wsL_letterAt := goodIn_ca (goodIn_r _ [253, 43, 254, 255, 256, 2, 257, 16, 21, 52, 53, 54, 55, 56, 57, 258, 259, 260, 261, 25, 58, 59, 60, 61, 22, 26, 24, 23, 62, 63, 64, 65, 13, 17, 66, 67, 68, 69, 70, 71, 72, 73, 74, 75, 76, 77, 78, 79, 80, 81, 82, 83, 84, 85, 86, 87, 88, 89, 90, 91, 92, 468, 469, 470, 471, 472, 473, 474, 475, 476, 477, 478, 479, 480, 481] (by decide +kernel) (by decide +kernel)) (goodIn_sub (fun _ h => List.mem_append_left _ (List.mem_append_right _ h)) (by decide +kernel))
set_option maxRecDepth 20000 in
theorem gL_law_L_letterAt : GoodIn wsL_law (va_wsS RL 116 yL_letterAt wsL_letterAt) := goodIn_app (goodIn_of _ (by decide +kernel)) ggL_law_L_letterAt
set_option maxRecDepth 20000 in
theorem ggL_law_X1_letterAt : GoodIn wsL_law wsX1_letterAt := goodIn_r _ [265, 119, 33, 38, 121, 122, 123, 5, 124, 37, 125, 126, 127, 128, 129, 130, 131, 132, 133, 134, 120, 34, 135, 136, 137, 193, 194, 195, 196, 142, 482, 483, 484, 485, 486, 487, 488, 489, 490, 491] (by decide +kernel) (by decide +kernel)
set_option maxRecDepth 20000 in
theorem gL_law_X1_letterAt : GoodIn wsL_law (wsV RL 118 RX1 yX1_letterAt wsX1_letterAt) := goodIn_app (goodIn_of _ (by decide +kernel)) ggL_law_X1_letterAt
set_option maxRecDepth 20000 in
theorem ggL_law_L_letterByList : GoodIn wsL_law wsL_letterByList := goodIn_ca (goodIn_r _ [268, 43, 269, 270, 271, 2, 272, 21, 16, 25, 52, 53, 54, 55, 56, 57, 273, 274, 275, 276, 27, 62, 63, 64, 65, 13, 17, 66, 67, 68, 69, 70, 71, 72, 73, 74, 75, 76, 277, 278, 279, 280, 81, 82, 83, 84, 85, 86, 87, 88, 89, 90, 91, 92, 468, 469, 470, 471, 472, 473, 474, 475, 476, 477, 478, 479, 480, 481] (by decide +kernel) (by decide +kernel)) (goodIn_sub (fun _ h => List.mem_append_left _ (List.mem_append_right _ h)) (by decide +kernel))
set_option maxRecDepth 20000 in
theorem gL_law_L_letterByList : GoodIn wsL_law (va_wsS RL 119 yL_letterByList wsL_letterByList) := goodIn_app (goodIn_of _ (by decide +kernel)) ggL_law_L_letterByList
set_option maxRecDepth 20000 in
theorem ggL_law_X1_letterByList : GoodIn wsL_law wsX1_letterByList := goodIn_r _ [284, 285, 263, 264, 5, 265, 119, 33, 38, 121, 122, 123, 124, 37, 125, 126, 127, 128, 129, 130, 131, 132, 133, 134, 120, 34, 135, 136, 137, 193, 194, 195, 196, 142, 482, 483, 484, 485, 486, 487, 488, 489, 490, 491] (by decide +kernel) (by decide +kernel)
set_option maxRecDepth 20000 in
theorem gL_law_X1_letterByList : GoodIn wsL_law (wsV RL 121 RX1 yX1_letterByList wsX1_letterByList) := goodIn_app (goodIn_of _ (by decide +kernel)) ggL_law_X1_letterByList
set_option maxRecDepth 20000 in
theorem ggL_law_L_eventAt : GoodIn wsL_law wsL_eventAt := goodIn_ca (goodIn_r _ [288, 43, 289, 290, 291, 2, 292, 21, 52, 53, 54, 55, 56, 57, 258, 259, 260, 261, 25, 58, 59, 60, 61, 22, 26, 24, 23, 62, 63, 64, 65, 13, 17, 66, 67, 68, 69, 70, 71, 72, 73, 74, 75, 76, 16, 77, 78, 79, 80, 81, 82, 83, 84, 85, 86, 87, 88, 89, 90, 91, 92, 468, 469, 470, 471, 472, 473, 474, 475, 476, 477, 478, 479, 480, 481] (by decide +kernel) (by decide +kernel)) (goodIn_sub (fun _ h => List.mem_append_left _ (List.mem_append_right _ h)) (by decide +kernel))
set_option maxRecDepth 20000 in
theorem gL_law_L_eventAt : GoodIn wsL_law (va_wsS RL 122 yL_eventAt wsL_eventAt) := goodIn_app (goodIn_of _ (by decide +kernel)) ggL_law_L_eventAt
set_option maxRecDepth 20000 in
theorem ggL_law_X1_eventAt : GoodIn wsL_law wsX1_eventAt := goodIn_r _ [296, 119, 38, 121, 122, 123, 5, 124, 37, 125, 126, 127, 128, 129, 130, 131, 132, 133, 134, 120, 33, 34, 135, 136, 137, 193, 194, 195, 196, 142, 482, 483, 484, 485, 486, 487, 488, 489, 490, 491] (by decide +kernel) (by decide +kernel)
set_option maxRecDepth 20000 in
theorem gL_law_X1_eventAt : GoodIn wsL_law (wsV RL 124 RX1 yX1_eventAt wsX1_eventAt) := goodIn_app (goodIn_of _ (by decide +kernel)) ggL_law_X1_eventAt
set_option maxRecDepth 20000 in
theorem ggL_law_L_lengthOf : GoodIn wsL_law wsL_lengthOf := goodIn_ca (goodIn_r _ [299, 43, 300, 301, 302, 2, 303, 212, 213, 214, 215, 56, 57, 81, 82, 83, 84, 13, 216, 217, 218, 219, 19, 70, 71, 72, 58, 59, 60, 61, 22, 26, 24, 23, 62, 63, 64, 65, 17, 66, 67, 68, 69, 73, 74, 75, 76, 16, 77, 78, 79, 80, 85, 86, 87, 88, 25, 468, 469, 470, 471, 472, 473, 474, 475, 476, 477, 478, 479, 480, 481] (by decide +kernel) (by decide +kernel)) (goodIn_sub (fun _ h => List.mem_append_left _ (List.mem_append_right _ h)) (by decide +kernel))
set_option maxRecDepth 20000 in
theorem gL_law_L_lengthOf : GoodIn wsL_law (va_wsS RL 125 yL_lengthOf wsL_lengthOf) := goodIn_app (goodIn_of _ (by decide +kernel)) ggL_law_L_lengthOf
set_option maxRecDepth 20000 in
theorem ggL_law_X1_lengthOf : GoodIn wsL_law wsX1_lengthOf := goodIn_r _ [307, 119, 308, 309, 310, 5, 311, 224, 225, 226, 227, 120, 128, 129, 130, 228, 229, 230, 231, 36, 131, 132, 133, 134, 33, 34, 38, 135, 136, 137, 193, 194, 195, 196, 142, 482, 483, 484, 485, 486, 487, 488, 489, 490, 491] (by decide +kernel) (by decide +kernel)
set_option maxRecDepth 20000 in
theorem gL_law_X1_lengthOf : GoodIn wsL_law (wsV RL 127 RX1 yX1_lengthOf wsX1_lengthOf) := goodIn_app (goodIn_of _ (by decide +kernel)) ggL_law_X1_lengthOf
set_option maxRecDepth 20000 in
theorem ggL_law_L_letterOf : GoodIn wsL_law wsL_letterOf := goodIn_ca (goodIn_r _ [314, 43, 315, 316, 317, 2, 318, 16, 212, 213, 214, 215, 56, 57, 81, 82, 83, 84, 13, 216, 217, 218, 219, 19, 70, 71, 72, 258, 259, 260, 261, 25, 58, 59, 60, 61, 22, 26, 24, 23, 62, 63, 64, 65, 17, 66, 67, 68, 69, 73, 74, 75, 76, 77, 78, 79, 80, 85, 86, 87, 88, 89, 90, 91, 92, 468, 469, 470, 471, 472, 473, 474, 475, 476, 477, 478, 479, 480, 481] (by decide +kernel) (by decide +kernel)) (goodIn_sub (fun _ h => List.mem_append_left _ (List.mem_append_right _ h)) (by decide +kernel))
set_option maxRecDepth 20000 in
theorem gL_law_L_letterOf : GoodIn wsL_law (va_wsS RL 128 yL_letterOf wsL_letterOf) := goodIn_app (goodIn_of _ (by decide +kernel)) ggL_law_L_letterOf
set_option maxRecDepth 20000 in
theorem ggL_law_X1_letterOf : GoodIn wsL_law wsX1_letterOf := goodIn_r _ [322, 119, 33, 38, 308, 309, 310, 5, 311, 224, 225, 226, 227, 120, 128, 129, 130, 228, 229, 230, 231, 36, 131, 132, 133, 134, 34, 135, 136, 137, 193, 194, 195, 196, 142, 482, 483, 484, 485, 486, 487, 488, 489, 490, 491] (by decide +kernel) (by decide +kernel)
set_option maxRecDepth 20000 in
theorem gL_law_X1_letterOf : GoodIn wsL_law (wsV RL 130 RX1 yX1_letterOf wsX1_letterOf) := goodIn_app (goodIn_of _ (by decide +kernel)) ggL_law_X1_letterOf
set_option maxRecDepth 20000 in
theorem ggL_law_L_lettersBy : GoodIn wsL_law wsL_lettersBy := goodIn_ca (goodIn_r _ [325, 43, 326, 327, 328, 2, 329, 21, 15, 25, 52, 53, 54, 55, 56, 57, 58, 59, 60, 61, 22, 26, 24, 23, 62, 63, 64, 65, 13, 17, 66, 67, 68, 69, 70, 71, 72, 73, 74, 75, 76, 16, 77, 78, 79, 80, 81, 82, 83, 84, 85, 86, 87, 88, 468, 469, 470, 471, 472, 473, 474, 475, 476, 477, 478, 479, 480, 481] (by decide +kernel) (by decide +kernel)) (goodIn_sub (fun _ h => List.mem_append_left _ (List.mem_append_right _ h)) (by decide +kernel))
set_option maxRecDepth 20000 in
theorem gL_law_L_lettersBy : GoodIn wsL_law (va_wsS RL 131 yL_lettersBy wsL_lettersBy) := goodIn_app (goodIn_of _ (by decide +kernel)) ggL_law_L_lettersBy
set_option maxRecDepth 20000 in
theorem ggL_law_X1_lettersBy : GoodIn wsL_law wsX1_lettersBy := goodIn_r _ [333, 37, 119, 32, 38, 125, 126, 5, 127, 128, 129, 130, 193, 194, 195, 196, 142, 131, 132, 133, 134, 120, 33, 34, 135, 136, 137, 482, 483, 484, 485, 486, 487, 488, 489, 490, 491] (by decide +kernel) (by decide +kernel)
set_option maxRecDepth 20000 in
theorem gL_law_X1_lettersBy : GoodIn wsL_law (wsV RL 133 RX1 yX1_lettersBy wsX1_lettersBy) := goodIn_app (goodIn_of _ (by decide +kernel)) ggL_law_X1_lettersBy
set_option maxRecDepth 20000 in
theorem ggL_law_L_authorOf : GoodIn wsL_law wsL_authorOf := goodIn_ca (goodIn_r _ [336, 43, 337, 338, 339, 2, 340, 15, 212, 213, 214, 215, 56, 57, 81, 82, 83, 84, 13, 468, 469, 470, 471, 472, 473, 474, 475, 476, 477, 478, 479, 480, 481] (by decide +kernel) (by decide +kernel)) (goodIn_sub (fun _ h => List.mem_append_left _ (List.mem_append_right _ h)) (by decide +kernel))
set_option maxRecDepth 20000 in
theorem gL_law_L_authorOf : GoodIn wsL_law (va_wsS RL 134 yL_authorOf wsL_authorOf) := goodIn_app (goodIn_of _ (by decide +kernel)) ggL_law_L_authorOf
set_option maxRecDepth 20000 in
theorem ggL_law_X1_authorOf : GoodIn wsL_law wsX1_authorOf := goodIn_r _ [344, 32, 224, 225, 226, 5, 227, 120, 128, 129, 130, 193, 194, 195, 196, 142, 482, 483, 484, 485, 486, 487, 488, 489, 490, 491] (by decide +kernel) (by decide +kernel)
set_option maxRecDepth 20000 in
theorem gL_law_X1_authorOf : GoodIn wsL_law (wsV RL 136 RX1 yX1_authorOf wsX1_authorOf) := goodIn_app (goodIn_of _ (by decide +kernel)) ggL_law_X1_authorOf
set_option maxRecDepth 20000 in
theorem ggL_law_L_parents : GoodIn wsL_law wsL_parents := goodIn_ca (goodIn_r _ [347, 43, 348, 349, 350, 2, 351, 18, 212, 213, 214, 215, 56, 57, 81, 82, 83, 84, 13, 468, 469, 470, 471, 472, 473, 474, 475, 476, 477, 478, 479, 480, 481] (by decide +kernel) (by decide +kernel)) (goodIn_sub (fun _ h => List.mem_append_left _ (List.mem_append_right _ h)) (by decide +kernel))
set_option maxRecDepth 20000 in
theorem gL_law_L_parents : GoodIn wsL_law (va_wsS RL 137 yL_parents wsL_parents) := goodIn_app (goodIn_of _ (by decide +kernel)) ggL_law_L_parents
set_option maxRecDepth 20000 in
theorem ggL_law_X1_parents : GoodIn wsL_law wsX1_parents := goodIn_r _ [355, 35, 224, 225, 226, 5, 227, 120, 128, 129, 130, 193, 194, 195, 196, 142, 482, 483, 484, 485, 486, 487, 488, 489, 490, 491] (by decide +kernel) (by decide +kernel)
set_option maxRecDepth 20000 in
theorem gL_law_X1_parents : GoodIn wsL_law (wsV RL 139 RX1 yX1_parents wsX1_parents) := goodIn_app (goodIn_of _ (by decide +kernel)) ggL_law_X1_parents
set_option maxRecDepth 20000 in
theorem ggL_law_L_isLater : GoodIn wsL_law wsL_isLater := goodIn_ca (goodIn_r _ [358, 43, 359, 360, 361, 2, 362, 19, 212, 213, 214, 215, 56, 57, 81, 82, 83, 84, 13, 67, 68, 69, 70, 71, 72, 468, 469, 470, 471, 472, 473, 474, 475, 476, 477, 478, 479, 480, 481] (by decide +kernel) (by decide +kernel)) (goodIn_sub (fun _ h => List.mem_append_left _ (List.mem_append_right _ h)) (by decide +kernel))
set_option maxRecDepth 20000 in
theorem gL_law_L_isLater : GoodIn wsL_law (va_wsS RL 140 yL_isLater wsL_isLater) := goodIn_app (goodIn_of _ (by decide +kernel)) ggL_law_L_isLater
set_option maxRecDepth 20000 in
theorem ggL_law_X1_isLater : GoodIn wsL_law wsX1_isLater := goodIn_r _ [366, 36, 224, 225, 226, 5, 227, 120, 128, 129, 130, 193, 194, 195, 196, 142, 135, 136, 137, 482, 483, 484, 485, 486, 487, 488, 489, 490, 491] (by decide +kernel) (by decide +kernel)
set_option maxRecDepth 20000 in
theorem gL_law_X1_isLater : GoodIn wsL_law (wsV RL 142 RX1 yX1_isLater wsX1_isLater) := goodIn_app (goodIn_of _ (by decide +kernel)) ggL_law_X1_isLater
set_option maxRecDepth 20000 in
theorem ggL_law_L_version : GoodIn wsL_law wsL_version := goodIn_ca (goodIn_r _ [369, 43, 370, 371, 372, 2, 373, 21, 52, 53, 54, 55, 56, 57, 468, 469, 470, 471, 472, 473, 474, 475, 476, 477, 478, 479, 480, 481] (by decide +kernel) (by decide +kernel)) (goodIn_sub (fun _ h => List.mem_append_left _ (List.mem_append_right _ h)) (by decide +kernel))
set_option maxRecDepth 20000 in
theorem gL_law_L_version : GoodIn wsL_law (va_wsS RL 143 yL_version wsL_version) := goodIn_app (goodIn_of _ (by decide +kernel)) ggL_law_L_version
set_option maxRecDepth 20000 in
theorem ggL_law_X1_version : GoodIn wsL_law wsX1_version := goodIn_r _ [377, 37, 125, 126, 5, 127, 128, 129, 130, 193, 194, 195, 196, 142, 482, 483, 484, 485, 486, 487, 488, 489, 490, 491] (by decide +kernel) (by decide +kernel)
set_option maxRecDepth 20000 in
theorem gL_law_X1_version : GoodIn wsL_law (wsV RL 145 RX1 yX1_version wsX1_version) := goodIn_app (goodIn_of _ (by decide +kernel)) ggL_law_X1_version
set_option maxRecDepth 20000 in
theorem ggL_law_L_heads : GoodIn wsL_law wsL_heads := goodIn_ca (goodIn_r _ [380, 43, 381, 382, 383, 2, 384, 21, 52, 53, 54, 55, 56, 57, 103, 104, 105, 106, 13, 18, 66, 67, 68, 69, 70, 71, 72, 468, 469, 470, 471, 472, 473, 474, 475, 476, 477, 478, 479, 480, 481] (by decide +kernel) (by decide +kernel)) (goodIn_sub (fun _ h => List.mem_append_left _ (List.mem_append_right _ h)) (by decide +kernel))
set_option maxRecDepth 20000 in
theorem gL_law_L_heads : GoodIn wsL_law (va_wsS RL 146 yL_heads wsL_heads) := goodIn_app (goodIn_of _ (by decide +kernel)) ggL_law_L_heads
set_option maxRecDepth 20000 in
theorem ggL_law_X1_heads : GoodIn wsL_law wsX1_heads := goodIn_r _ [388, 37, 125, 126, 5, 127, 128, 129, 130, 193, 194, 195, 196, 142, 147, 148, 149, 150, 120, 35, 151, 135, 136, 137, 482, 483, 484, 485, 486, 487, 488, 489, 490, 491] (by decide +kernel) (by decide +kernel)
set_option maxRecDepth 20000 in
theorem gL_law_X1_heads : GoodIn wsL_law (wsV RL 148 RX1 yX1_heads wsX1_heads) := goodIn_app (goodIn_of _ (by decide +kernel)) ggL_law_X1_heads
set_option maxRecDepth 20000 in
theorem ggL_law_L_commonHeads : GoodIn wsL_law wsL_commonHeads := goodIn_ca (goodIn_r _ [391, 43, 392, 393, 394, 2, 395, 21, 52, 53, 54, 55, 56, 57, 103, 104, 105, 106, 13, 18, 66, 67, 68, 69, 70, 71, 72, 468, 469, 470, 471, 472, 473, 474, 475, 476, 477, 478, 479, 480, 481] (by decide +kernel) (by decide +kernel)) (goodIn_sub (fun _ h => List.mem_append_left _ (List.mem_append_right _ h)) (by decide +kernel))
set_option maxRecDepth 20000 in
theorem gL_law_L_commonHeads : GoodIn wsL_law (va_wsS RL 149 yL_commonHeads wsL_commonHeads) := goodIn_app (goodIn_of _ (by decide +kernel)) ggL_law_L_commonHeads
set_option maxRecDepth 20000 in
theorem ggL_law_X1_commonHeads : GoodIn wsL_law wsX1_commonHeads := goodIn_r _ [399, 37, 125, 126, 5, 127, 128, 129, 130, 193, 194, 195, 196, 142, 147, 148, 149, 150, 120, 35, 151, 135, 136, 137, 482, 483, 484, 485, 486, 487, 488, 489, 490, 491] (by decide +kernel) (by decide +kernel)
set_option maxRecDepth 20000 in
theorem gL_law_X1_commonHeads : GoodIn wsL_law (wsV RL 151 RX1 yX1_commonHeads wsX1_commonHeads) := goodIn_app (goodIn_of _ (by decide +kernel)) ggL_law_X1_commonHeads
set_option maxRecDepth 20000 in
theorem ggL_law_L_concurrent : GoodIn wsL_law wsL_concurrent := goodIn_ca (goodIn_r _ [402, 43, 403, 404, 405, 2, 406, 21, 13, 66, 52, 53, 54, 55, 56, 57, 67, 68, 69, 70, 71, 72, 407, 408, 409, 410, 20, 216, 217, 218, 219, 19, 182, 183, 184, 185, 186, 187, 188, 468, 469, 470, 471, 472, 473, 474, 475, 476, 477, 478, 479, 480, 481] (by decide +kernel) (by decide +kernel)) (goodIn_sub (fun _ h => List.mem_append_left _ (List.mem_append_right _ h)) (by decide +kernel))
set_option maxRecDepth 20000 in
theorem gL_law_L_concurrent : GoodIn wsL_law (va_wsS RL 152 yL_concurrent wsL_concurrent) := goodIn_app (goodIn_of _ (by decide +kernel)) ggL_law_L_concurrent
set_option maxRecDepth 20000 in
theorem ggL_law_X1_concurrent : GoodIn wsL_law wsX1_concurrent := goodIn_r _ [414, 120, 37, 125, 126, 5, 127, 128, 129, 130, 193, 194, 195, 196, 142, 135, 136, 137, 415, 416, 417, 418, 36, 482, 483, 484, 485, 486, 487, 488, 489, 490, 491] (by decide +kernel) (by decide +kernel)
set_option maxRecDepth 20000 in
theorem gL_law_X1_concurrent : GoodIn wsL_law (wsV RL 154 RX1 yX1_concurrent wsX1_concurrent) := goodIn_app (goodIn_of _ (by decide +kernel)) ggL_law_X1_concurrent
set_option maxRecDepth 20000 in
theorem ggL_law_L_critical : GoodIn wsL_law wsL_critical := goodIn_ca (goodIn_r _ [421, 43, 422, 423, 424, 2, 425, 21, 52, 53, 54, 55, 56, 57, 426, 427, 428, 429, 13, 66, 67, 68, 69, 70, 71, 72, 407, 408, 409, 410, 20, 216, 217, 218, 219, 19, 468, 469, 470, 471, 472, 473, 474, 475, 476, 477, 478, 479, 480, 481] (by decide +kernel) (by decide +kernel)) (goodIn_sub (fun _ h => List.mem_append_left _ (List.mem_append_right _ h)) (by decide +kernel))
set_option maxRecDepth 20000 in
theorem gL_law_L_critical : GoodIn wsL_law (va_wsS RL 155 yL_critical wsL_critical) := goodIn_app (goodIn_of _ (by decide +kernel)) ggL_law_L_critical
set_option maxRecDepth 20000 in
theorem ggL_law_X1_critical : GoodIn wsL_law wsX1_critical := goodIn_r _ [433, 125, 126, 5, 127, 128, 129, 130, 193, 194, 195, 196, 142, 434, 435, 436, 437, 120, 37, 135, 136, 137, 415, 416, 417, 418, 36, 482, 483, 484, 485, 486, 487, 488, 489, 490, 491] (by decide +kernel) (by decide +kernel)
set_option maxRecDepth 20000 in
theorem gL_law_X1_critical : GoodIn wsL_law (wsV RL 157 RX1 yX1_critical wsX1_critical) := goodIn_app (goodIn_of _ (by decide +kernel)) ggL_law_X1_critical
set_option maxRecDepth 20000 in
theorem ggL_law_L_toReplay : GoodIn wsL_law wsL_toReplay := goodIn_ca (goodIn_r _ [440, 43, 441, 442, 443, 2, 444, 21, 13, 66, 52, 53, 54, 55, 56, 57, 426, 427, 428, 429, 67, 68, 69, 70, 71, 72, 407, 408, 409, 410, 20, 216, 217, 218, 219, 19, 182, 183, 184, 185, 186, 187, 188, 468, 469, 470, 471, 472, 473, 474, 475, 476, 477, 478, 479, 480, 481] (by decide +kernel) (by decide +kernel)) (goodIn_sub (fun _ h => List.mem_append_left _ (List.mem_append_right _ h)) (by decide +kernel))
set_option maxRecDepth 20000 in
theorem gL_law_L_toReplay : GoodIn wsL_law (va_wsS RL 158 yL_toReplay wsL_toReplay) := goodIn_app (goodIn_of _ (by decide +kernel)) ggL_law_L_toReplay
set_option maxRecDepth 20000 in
theorem ggL_law_X1_toReplay : GoodIn wsL_law wsX1_toReplay := goodIn_r _ [448, 120, 37, 151, 125, 126, 5, 127, 128, 129, 130, 193, 194, 195, 196, 142, 434, 435, 436, 437, 135, 136, 137, 415, 416, 417, 418, 36, 228, 229, 230, 231, 201, 202, 203, 204, 482, 483, 484, 485, 486, 487, 488, 489, 490, 491] (by decide +kernel) (by decide +kernel)
set_option maxRecDepth 20000 in
theorem gL_law_X1_toReplay : GoodIn wsL_law (wsV RL 160 RX1 yX1_toReplay wsX1_toReplay) := goodIn_app (goodIn_of _ (by decide +kernel)) ggL_law_X1_toReplay
set_option maxRecDepth 20000 in
theorem ggL_law_L_runs : GoodIn wsL_law wsL_runs := goodIn_ca (goodIn_r _ [451, 43, 452, 453, 454, 2, 455, 21, 13, 52, 53, 54, 55, 56, 57, 67, 68, 69, 70, 71, 72, 456, 457, 458, 459, 17, 18, 15, 73, 74, 75, 76, 16, 81, 82, 83, 84, 468, 469, 470, 471, 472, 473, 474, 475, 476, 477, 478, 479, 480, 481] (by decide +kernel) (by decide +kernel)) (goodIn_sub (fun _ h => List.mem_append_left _ (List.mem_append_right _ h)) (by decide +kernel))
set_option maxRecDepth 20000 in
theorem gL_law_L_runs : GoodIn wsL_law (va_wsS RL 161 yL_runs wsL_runs) := goodIn_app (goodIn_of _ (by decide +kernel)) ggL_law_L_runs
set_option maxRecDepth 20000 in
theorem ggL_law_X1_runs : GoodIn wsL_law wsX1_runs := goodIn_r _ [463, 120, 37, 125, 126, 5, 127, 128, 129, 130, 193, 194, 195, 196, 142, 135, 136, 137, 464, 465, 466, 467, 34, 33, 35, 32, 482, 483, 484, 485, 486, 487, 488, 489, 490, 491] (by decide +kernel) (by decide +kernel)
set_option maxRecDepth 20000 in
theorem gL_law_X1_runs : GoodIn wsL_law (wsV RL 163 RX1 yX1_runs wsX1_runs) := goodIn_app (goodIn_of _ (by decide +kernel)) ggL_law_X1_runs
end
section
theorem dL_law_0 : decode cL_law 0 = .ok (.new 8, 3) := by decide +kernel
theorem dL_law_3 : decode cL_law 3 = .ok (.dup, 1) := by decide +kernel
theorem dL_law_4 : decode cL_law 4 = .ok (.invokespecial 84, 3) := by decide +kernel
theorem dL_law_7 : decode cL_law 7 = .ok (.astore_n 1, 1) := by decide +kernel
theorem dL_law_8 : decode cL_law 8 = .ok (.new 85, 3) := by decide +kernel
theorem dL_law_11 : decode cL_law 11 = .ok (.dup, 1) := by decide +kernel
theorem dL_law_12 : decode cL_law 12 = .ok (.invokespecial 87, 3) := by decide +kernel
theorem dL_law_15 : decode cL_law 15 = .ok (.astore_n 2, 1) := by decide +kernel
theorem dL_law_16 : decode cL_law 16 = .ok (.iconst 1, 1) := by decide +kernel
theorem dL_law_17 : decode cL_law 17 = .ok (.newarray .long, 2) := by decide +kernel
theorem dL_law_19 : decode cL_law 19 = .ok (.astore_n 3, 1) := by decide +kernel
theorem dL_law_20 : decode cL_law 20 = .ok (.iconst 0, 1) := by decide +kernel
theorem dL_law_21 : decode cL_law 21 = .ok (.istore 4, 2) := by decide +kernel
theorem dL_law_23 : decode cL_law 23 = .ok (.iload 4, 2) := by decide +kernel
theorem dL_law_25 : decode cL_law 25 = .ok (.aload_n 0, 1) := by decide +kernel
theorem dL_law_26 : decode cL_law 26 = .ok (.arraylength, 1) := by decide +kernel
theorem dL_law_27 : decode cL_law 27 = .ok (.iconst 4, 1) := by decide +kernel
theorem dL_law_28 : decode cL_law 28 = .ok (.isub, 1) := by decide +kernel
theorem dL_law_29 : decode cL_law 29 = .ok (.if_icmp .gt 1452, 3) := by decide +kernel
theorem dL_law_32 : decode cL_law 32 = .ok (.aload_n 0, 1) := by decide +kernel
theorem dL_law_33 : decode cL_law 33 = .ok (.iload 4, 2) := by decide +kernel
theorem dL_law_35 : decode cL_law 35 = .ok (.iaload, 1) := by decide +kernel
theorem dL_law_36 : decode cL_law 36 = .ok (.bipush 31, 2) := by decide +kernel
theorem dL_law_38 : decode cL_law 38 = .ok (.iand, 1) := by decide +kernel
theorem dL_law_39 : decode cL_law 39 = .ok (.tableswitch 1436 0 21 #[101, 181, 249, 317, 385, 398, 454, 522, 590, 658, 714, 782, 850, 906, 961, 1036, 1091, 1146, 1213, 1269, 1324, 1380], 101) := by decide +kernel
theorem dL_law_140 : decode cL_law 140 = .ok (.aload_n 1, 1) := by decide +kernel
theorem dL_law_141 : decode cL_law 141 = .ok (.aload_n 0, 1) := by decide +kernel
theorem dL_law_142 : decode cL_law 142 = .ok (.iload 4, 2) := by decide +kernel
theorem dL_law_144 : decode cL_law 144 = .ok (.iconst 1, 1) := by decide +kernel
theorem dL_law_145 : decode cL_law 145 = .ok (.iadd, 1) := by decide +kernel
theorem dL_law_146 : decode cL_law 146 = .ok (.iaload, 1) := by decide +kernel
theorem dL_law_147 : decode cL_law 147 = .ok (.aload_n 0, 1) := by decide +kernel
theorem dL_law_148 : decode cL_law 148 = .ok (.iload 4, 2) := by decide +kernel
theorem dL_law_150 : decode cL_law 150 = .ok (.iconst 2, 1) := by decide +kernel
theorem dL_law_151 : decode cL_law 151 = .ok (.iadd, 1) := by decide +kernel
theorem dL_law_152 : decode cL_law 152 = .ok (.iaload, 1) := by decide +kernel
theorem dL_law_153 : decode cL_law 153 = .ok (.aload_n 0, 1) := by decide +kernel
theorem dL_law_154 : decode cL_law 154 = .ok (.iload 4, 2) := by decide +kernel
theorem dL_law_156 : decode cL_law 156 = .ok (.iconst 3, 1) := by decide +kernel
theorem dL_law_157 : decode cL_law 157 = .ok (.iadd, 1) := by decide +kernel
theorem dL_law_158 : decode cL_law 158 = .ok (.iaload, 1) := by decide +kernel
theorem dL_law_159 : decode cL_law 159 = .ok (.aload_n 3, 1) := by decide +kernel
theorem dL_law_160 : decode cL_law 160 = .ok (.invokestatic 88, 3) := by decide +kernel
theorem dL_law_163 : decode cL_law 163 = .ok (.istore 5, 2) := by decide +kernel
theorem dL_law_165 : decode cL_law 165 = .ok (.aload_n 2, 1) := by decide +kernel
theorem dL_law_166 : decode cL_law 166 = .ok (.aload_n 0, 1) := by decide +kernel
theorem dL_law_167 : decode cL_law 167 = .ok (.iload 4, 2) := by decide +kernel
theorem dL_law_169 : decode cL_law 169 = .ok (.iconst 1, 1) := by decide +kernel
theorem dL_law_170 : decode cL_law 170 = .ok (.iadd, 1) := by decide +kernel
theorem dL_law_171 : decode cL_law 171 = .ok (.iaload, 1) := by decide +kernel
theorem dL_law_172 : decode cL_law 172 = .ok (.aload_n 0, 1) := by decide +kernel
theorem dL_law_173 : decode cL_law 173 = .ok (.iload 4, 2) := by decide +kernel
theorem dL_law_175 : decode cL_law 175 = .ok (.iconst 2, 1) := by decide +kernel
theorem dL_law_176 : decode cL_law 176 = .ok (.iadd, 1) := by decide +kernel
theorem dL_law_177 : decode cL_law 177 = .ok (.iaload, 1) := by decide +kernel
theorem dL_law_178 : decode cL_law 178 = .ok (.aload_n 0, 1) := by decide +kernel
theorem dL_law_179 : decode cL_law 179 = .ok (.iload 4, 2) := by decide +kernel
theorem dL_law_181 : decode cL_law 181 = .ok (.iconst 3, 1) := by decide +kernel
theorem dL_law_182 : decode cL_law 182 = .ok (.iadd, 1) := by decide +kernel
theorem dL_law_183 : decode cL_law 183 = .ok (.iaload, 1) := by decide +kernel
theorem dL_law_184 : decode cL_law 184 = .ok (.invokevirtual 93, 3) := by decide +kernel
theorem dL_law_187 : decode cL_law 187 = .ok (.istore 6, 2) := by decide +kernel
theorem dL_law_189 : decode cL_law 189 = .ok (.aload_n 2, 1) := by decide +kernel
theorem dL_law_190 : decode cL_law 190 = .ok (.invokevirtual 94, 3) := by decide +kernel
theorem dL_law_193 : decode cL_law 193 = .ok (.iload 5, 2) := by decide +kernel
theorem dL_law_195 : decode cL_law 195 = .ok (.if_icmp .eq 5, 3) := by decide +kernel
theorem dL_law_198 : decode cL_law 198 = .ok (.iconst 0, 1) := by decide +kernel
theorem dL_law_199 : decode cL_law 199 = .ok (.ireturn, 1) := by decide +kernel
theorem dL_law_200 : decode cL_law 200 = .ok (.iload 5, 2) := by decide +kernel
theorem dL_law_202 : decode cL_law 202 = .ok (.ifCond .ne 15, 3) := by decide +kernel
theorem dL_law_205 : decode cL_law 205 = .ok (.aload_n 3, 1) := by decide +kernel
theorem dL_law_206 : decode cL_law 206 = .ok (.iconst 0, 1) := by decide +kernel
theorem dL_law_207 : decode cL_law 207 = .ok (.laload, 1) := by decide +kernel
theorem dL_law_208 : decode cL_law 208 = .ok (.iload 6, 2) := by decide +kernel
theorem dL_law_210 : decode cL_law 210 = .ok (.i2l, 1) := by decide +kernel
theorem dL_law_211 : decode cL_law 211 = .ok (.lcmp, 1) := by decide +kernel
theorem dL_law_212 : decode cL_law 212 = .ok (.ifCond .eq 5, 3) := by decide +kernel
theorem dL_law_215 : decode cL_law 215 = .ok (.iconst 0, 1) := by decide +kernel
theorem dL_law_216 : decode cL_law 216 = .ok (.ireturn, 1) := by decide +kernel
theorem dL_law_217 : decode cL_law 217 = .ok (.goto 1258, 3) := by decide +kernel
theorem dL_law_220 : decode cL_law 220 = .ok (.aload_n 1, 1) := by decide +kernel
theorem dL_law_221 : decode cL_law 221 = .ok (.aload_n 0, 1) := by decide +kernel
theorem dL_law_222 : decode cL_law 222 = .ok (.iload 4, 2) := by decide +kernel
theorem dL_law_224 : decode cL_law 224 = .ok (.iconst 1, 1) := by decide +kernel
theorem dL_law_225 : decode cL_law 225 = .ok (.iadd, 1) := by decide +kernel
theorem dL_law_226 : decode cL_law 226 = .ok (.iaload, 1) := by decide +kernel
theorem dL_law_227 : decode cL_law 227 = .ok (.aload_n 0, 1) := by decide +kernel
theorem dL_law_228 : decode cL_law 228 = .ok (.iload 4, 2) := by decide +kernel
theorem dL_law_230 : decode cL_law 230 = .ok (.iconst 2, 1) := by decide +kernel
theorem dL_law_231 : decode cL_law 231 = .ok (.iadd, 1) := by decide +kernel
theorem dL_law_232 : decode cL_law 232 = .ok (.iaload, 1) := by decide +kernel
theorem dL_law_233 : decode cL_law 233 = .ok (.aload_n 3, 1) := by decide +kernel
theorem dL_law_234 : decode cL_law 234 = .ok (.invokestatic 98, 3) := by decide +kernel
theorem dL_law_237 : decode cL_law 237 = .ok (.istore 5, 2) := by decide +kernel
theorem dL_law_239 : decode cL_law 239 = .ok (.aload_n 2, 1) := by decide +kernel
theorem dL_law_240 : decode cL_law 240 = .ok (.aload_n 0, 1) := by decide +kernel
theorem dL_law_241 : decode cL_law 241 = .ok (.iload 4, 2) := by decide +kernel
theorem dL_law_243 : decode cL_law 243 = .ok (.iconst 1, 1) := by decide +kernel
theorem dL_law_244 : decode cL_law 244 = .ok (.iadd, 1) := by decide +kernel
theorem dL_law_245 : decode cL_law 245 = .ok (.iaload, 1) := by decide +kernel
theorem dL_law_246 : decode cL_law 246 = .ok (.aload_n 0, 1) := by decide +kernel
theorem dL_law_247 : decode cL_law 247 = .ok (.iload 4, 2) := by decide +kernel
theorem dL_law_249 : decode cL_law 249 = .ok (.iconst 2, 1) := by decide +kernel
theorem dL_law_250 : decode cL_law 250 = .ok (.iadd, 1) := by decide +kernel
theorem dL_law_251 : decode cL_law 251 = .ok (.iaload, 1) := by decide +kernel
theorem dL_law_252 : decode cL_law 252 = .ok (.invokevirtual 101, 3) := by decide +kernel
theorem dL_law_255 : decode cL_law 255 = .ok (.istore 6, 2) := by decide +kernel
theorem dL_law_257 : decode cL_law 257 = .ok (.aload_n 2, 1) := by decide +kernel
theorem dL_law_258 : decode cL_law 258 = .ok (.invokevirtual 94, 3) := by decide +kernel
theorem dL_law_261 : decode cL_law 261 = .ok (.iload 5, 2) := by decide +kernel
theorem dL_law_263 : decode cL_law 263 = .ok (.if_icmp .eq 5, 3) := by decide +kernel
theorem dL_law_266 : decode cL_law 266 = .ok (.iconst 0, 1) := by decide +kernel
theorem dL_law_267 : decode cL_law 267 = .ok (.ireturn, 1) := by decide +kernel
theorem dL_law_268 : decode cL_law 268 = .ok (.iload 5, 2) := by decide +kernel
theorem dL_law_270 : decode cL_law 270 = .ok (.ifCond .ne 15, 3) := by decide +kernel
theorem dL_law_273 : decode cL_law 273 = .ok (.aload_n 3, 1) := by decide +kernel
theorem dL_law_274 : decode cL_law 274 = .ok (.iconst 0, 1) := by decide +kernel
theorem dL_law_275 : decode cL_law 275 = .ok (.laload, 1) := by decide +kernel
theorem dL_law_276 : decode cL_law 276 = .ok (.iload 6, 2) := by decide +kernel
theorem dL_law_278 : decode cL_law 278 = .ok (.i2l, 1) := by decide +kernel
theorem dL_law_279 : decode cL_law 279 = .ok (.lcmp, 1) := by decide +kernel
theorem dL_law_280 : decode cL_law 280 = .ok (.ifCond .eq 5, 3) := by decide +kernel
theorem dL_law_283 : decode cL_law 283 = .ok (.iconst 0, 1) := by decide +kernel
theorem dL_law_284 : decode cL_law 284 = .ok (.ireturn, 1) := by decide +kernel
theorem dL_law_285 : decode cL_law 285 = .ok (.goto 1190, 3) := by decide +kernel
theorem dL_law_288 : decode cL_law 288 = .ok (.aload_n 1, 1) := by decide +kernel
theorem dL_law_289 : decode cL_law 289 = .ok (.aload_n 0, 1) := by decide +kernel
theorem dL_law_290 : decode cL_law 290 = .ok (.iload 4, 2) := by decide +kernel
theorem dL_law_292 : decode cL_law 292 = .ok (.iconst 1, 1) := by decide +kernel
theorem dL_law_293 : decode cL_law 293 = .ok (.iadd, 1) := by decide +kernel
theorem dL_law_294 : decode cL_law 294 = .ok (.iaload, 1) := by decide +kernel
theorem dL_law_295 : decode cL_law 295 = .ok (.aload_n 0, 1) := by decide +kernel
theorem dL_law_296 : decode cL_law 296 = .ok (.iload 4, 2) := by decide +kernel
theorem dL_law_298 : decode cL_law 298 = .ok (.iconst 2, 1) := by decide +kernel
theorem dL_law_299 : decode cL_law 299 = .ok (.iadd, 1) := by decide +kernel
theorem dL_law_300 : decode cL_law 300 = .ok (.iaload, 1) := by decide +kernel
theorem dL_law_301 : decode cL_law 301 = .ok (.aload_n 3, 1) := by decide +kernel
theorem dL_law_302 : decode cL_law 302 = .ok (.invokestatic 102, 3) := by decide +kernel
theorem dL_law_305 : decode cL_law 305 = .ok (.istore 5, 2) := by decide +kernel
theorem dL_law_307 : decode cL_law 307 = .ok (.aload_n 2, 1) := by decide +kernel
theorem dL_law_308 : decode cL_law 308 = .ok (.aload_n 0, 1) := by decide +kernel
theorem dL_law_309 : decode cL_law 309 = .ok (.iload 4, 2) := by decide +kernel
theorem dL_law_311 : decode cL_law 311 = .ok (.iconst 1, 1) := by decide +kernel
theorem dL_law_312 : decode cL_law 312 = .ok (.iadd, 1) := by decide +kernel
theorem dL_law_313 : decode cL_law 313 = .ok (.iaload, 1) := by decide +kernel
theorem dL_law_314 : decode cL_law 314 = .ok (.aload_n 0, 1) := by decide +kernel
theorem dL_law_315 : decode cL_law 315 = .ok (.iload 4, 2) := by decide +kernel
theorem dL_law_317 : decode cL_law 317 = .ok (.iconst 2, 1) := by decide +kernel
theorem dL_law_318 : decode cL_law 318 = .ok (.iadd, 1) := by decide +kernel
theorem dL_law_319 : decode cL_law 319 = .ok (.iaload, 1) := by decide +kernel
theorem dL_law_320 : decode cL_law 320 = .ok (.invokevirtual 104, 3) := by decide +kernel
theorem dL_law_323 : decode cL_law 323 = .ok (.istore 6, 2) := by decide +kernel
theorem dL_law_325 : decode cL_law 325 = .ok (.aload_n 2, 1) := by decide +kernel
theorem dL_law_326 : decode cL_law 326 = .ok (.invokevirtual 94, 3) := by decide +kernel
theorem dL_law_329 : decode cL_law 329 = .ok (.iload 5, 2) := by decide +kernel
theorem dL_law_331 : decode cL_law 331 = .ok (.if_icmp .eq 5, 3) := by decide +kernel
theorem dL_law_334 : decode cL_law 334 = .ok (.iconst 0, 1) := by decide +kernel
theorem dL_law_335 : decode cL_law 335 = .ok (.ireturn, 1) := by decide +kernel
theorem dL_law_336 : decode cL_law 336 = .ok (.iload 5, 2) := by decide +kernel
theorem dL_law_338 : decode cL_law 338 = .ok (.ifCond .ne 15, 3) := by decide +kernel
theorem dL_law_341 : decode cL_law 341 = .ok (.aload_n 3, 1) := by decide +kernel
theorem dL_law_342 : decode cL_law 342 = .ok (.iconst 0, 1) := by decide +kernel
theorem dL_law_343 : decode cL_law 343 = .ok (.laload, 1) := by decide +kernel
theorem dL_law_344 : decode cL_law 344 = .ok (.iload 6, 2) := by decide +kernel
theorem dL_law_346 : decode cL_law 346 = .ok (.i2l, 1) := by decide +kernel
theorem dL_law_347 : decode cL_law 347 = .ok (.lcmp, 1) := by decide +kernel
theorem dL_law_348 : decode cL_law 348 = .ok (.ifCond .eq 5, 3) := by decide +kernel
theorem dL_law_351 : decode cL_law 351 = .ok (.iconst 0, 1) := by decide +kernel
theorem dL_law_352 : decode cL_law 352 = .ok (.ireturn, 1) := by decide +kernel
theorem dL_law_353 : decode cL_law 353 = .ok (.goto 1122, 3) := by decide +kernel
theorem dL_law_356 : decode cL_law 356 = .ok (.aload_n 1, 1) := by decide +kernel
theorem dL_law_357 : decode cL_law 357 = .ok (.aload_n 0, 1) := by decide +kernel
theorem dL_law_358 : decode cL_law 358 = .ok (.iload 4, 2) := by decide +kernel
theorem dL_law_360 : decode cL_law 360 = .ok (.iconst 1, 1) := by decide +kernel
theorem dL_law_361 : decode cL_law 361 = .ok (.iadd, 1) := by decide +kernel
theorem dL_law_362 : decode cL_law 362 = .ok (.iaload, 1) := by decide +kernel
theorem dL_law_363 : decode cL_law 363 = .ok (.aload_n 0, 1) := by decide +kernel
theorem dL_law_364 : decode cL_law 364 = .ok (.iload 4, 2) := by decide +kernel
theorem dL_law_366 : decode cL_law 366 = .ok (.iconst 2, 1) := by decide +kernel
theorem dL_law_367 : decode cL_law 367 = .ok (.iadd, 1) := by decide +kernel
theorem dL_law_368 : decode cL_law 368 = .ok (.iaload, 1) := by decide +kernel
theorem dL_law_369 : decode cL_law 369 = .ok (.aload_n 3, 1) := by decide +kernel
theorem dL_law_370 : decode cL_law 370 = .ok (.invokestatic 105, 3) := by decide +kernel
theorem dL_law_373 : decode cL_law 373 = .ok (.istore 5, 2) := by decide +kernel
theorem dL_law_375 : decode cL_law 375 = .ok (.aload_n 2, 1) := by decide +kernel
theorem dL_law_376 : decode cL_law 376 = .ok (.aload_n 0, 1) := by decide +kernel
theorem dL_law_377 : decode cL_law 377 = .ok (.iload 4, 2) := by decide +kernel
theorem dL_law_379 : decode cL_law 379 = .ok (.iconst 1, 1) := by decide +kernel
theorem dL_law_380 : decode cL_law 380 = .ok (.iadd, 1) := by decide +kernel
theorem dL_law_381 : decode cL_law 381 = .ok (.iaload, 1) := by decide +kernel
theorem dL_law_382 : decode cL_law 382 = .ok (.aload_n 0, 1) := by decide +kernel
theorem dL_law_383 : decode cL_law 383 = .ok (.iload 4, 2) := by decide +kernel
theorem dL_law_385 : decode cL_law 385 = .ok (.iconst 2, 1) := by decide +kernel
theorem dL_law_386 : decode cL_law 386 = .ok (.iadd, 1) := by decide +kernel
theorem dL_law_387 : decode cL_law 387 = .ok (.iaload, 1) := by decide +kernel
theorem dL_law_388 : decode cL_law 388 = .ok (.invokevirtual 107, 3) := by decide +kernel
theorem dL_law_391 : decode cL_law 391 = .ok (.istore 6, 2) := by decide +kernel
theorem dL_law_393 : decode cL_law 393 = .ok (.aload_n 2, 1) := by decide +kernel
theorem dL_law_394 : decode cL_law 394 = .ok (.invokevirtual 94, 3) := by decide +kernel
theorem dL_law_397 : decode cL_law 397 = .ok (.iload 5, 2) := by decide +kernel
theorem dL_law_399 : decode cL_law 399 = .ok (.if_icmp .eq 5, 3) := by decide +kernel
theorem dL_law_402 : decode cL_law 402 = .ok (.iconst 0, 1) := by decide +kernel
theorem dL_law_403 : decode cL_law 403 = .ok (.ireturn, 1) := by decide +kernel
theorem dL_law_404 : decode cL_law 404 = .ok (.iload 5, 2) := by decide +kernel
theorem dL_law_406 : decode cL_law 406 = .ok (.ifCond .ne 15, 3) := by decide +kernel
theorem dL_law_409 : decode cL_law 409 = .ok (.aload_n 3, 1) := by decide +kernel
theorem dL_law_410 : decode cL_law 410 = .ok (.iconst 0, 1) := by decide +kernel
theorem dL_law_411 : decode cL_law 411 = .ok (.laload, 1) := by decide +kernel
theorem dL_law_412 : decode cL_law 412 = .ok (.iload 6, 2) := by decide +kernel
theorem dL_law_414 : decode cL_law 414 = .ok (.i2l, 1) := by decide +kernel
theorem dL_law_415 : decode cL_law 415 = .ok (.lcmp, 1) := by decide +kernel
theorem dL_law_416 : decode cL_law 416 = .ok (.ifCond .eq 5, 3) := by decide +kernel
theorem dL_law_419 : decode cL_law 419 = .ok (.iconst 0, 1) := by decide +kernel
theorem dL_law_420 : decode cL_law 420 = .ok (.ireturn, 1) := by decide +kernel
theorem dL_law_421 : decode cL_law 421 = .ok (.goto 1054, 3) := by decide +kernel
theorem dL_law_424 : decode cL_law 424 = .ok (.aload_n 1, 1) := by decide +kernel
theorem dL_law_425 : decode cL_law 425 = .ok (.invokevirtual 108, 3) := by decide +kernel
theorem dL_law_428 : decode cL_law 428 = .ok (.aload_n 2, 1) := by decide +kernel
theorem dL_law_429 : decode cL_law 429 = .ok (.invokevirtual 111, 3) := by decide +kernel
theorem dL_law_432 : decode cL_law 432 = .ok (.if_icmp .eq 1043, 3) := by decide +kernel
theorem dL_law_435 : decode cL_law 435 = .ok (.iconst 0, 1) := by decide +kernel
theorem dL_law_436 : decode cL_law 436 = .ok (.ireturn, 1) := by decide +kernel
theorem dL_law_437 : decode cL_law 437 = .ok (.aload_n 1, 1) := by decide +kernel
theorem dL_law_438 : decode cL_law 438 = .ok (.aload_n 0, 1) := by decide +kernel
theorem dL_law_439 : decode cL_law 439 = .ok (.iload 4, 2) := by decide +kernel
theorem dL_law_441 : decode cL_law 441 = .ok (.iconst 1, 1) := by decide +kernel
theorem dL_law_442 : decode cL_law 442 = .ok (.iadd, 1) := by decide +kernel
theorem dL_law_443 : decode cL_law 443 = .ok (.iaload, 1) := by decide +kernel
theorem dL_law_444 : decode cL_law 444 = .ok (.aload_n 3, 1) := by decide +kernel
theorem dL_law_445 : decode cL_law 445 = .ok (.invokestatic 112, 3) := by decide +kernel
theorem dL_law_448 : decode cL_law 448 = .ok (.istore 5, 2) := by decide +kernel
theorem dL_law_450 : decode cL_law 450 = .ok (.aload_n 2, 1) := by decide +kernel
theorem dL_law_451 : decode cL_law 451 = .ok (.aload_n 0, 1) := by decide +kernel
theorem dL_law_452 : decode cL_law 452 = .ok (.iload 4, 2) := by decide +kernel
theorem dL_law_454 : decode cL_law 454 = .ok (.iconst 1, 1) := by decide +kernel
theorem dL_law_455 : decode cL_law 455 = .ok (.iadd, 1) := by decide +kernel
theorem dL_law_456 : decode cL_law 456 = .ok (.iaload, 1) := by decide +kernel
theorem dL_law_457 : decode cL_law 457 = .ok (.invokevirtual 115, 3) := by decide +kernel
theorem dL_law_460 : decode cL_law 460 = .ok (.istore 6, 2) := by decide +kernel
theorem dL_law_462 : decode cL_law 462 = .ok (.aload_n 2, 1) := by decide +kernel
theorem dL_law_463 : decode cL_law 463 = .ok (.invokevirtual 94, 3) := by decide +kernel
theorem dL_law_466 : decode cL_law 466 = .ok (.iload 5, 2) := by decide +kernel
theorem dL_law_468 : decode cL_law 468 = .ok (.if_icmp .eq 5, 3) := by decide +kernel
theorem dL_law_471 : decode cL_law 471 = .ok (.iconst 0, 1) := by decide +kernel
theorem dL_law_472 : decode cL_law 472 = .ok (.ireturn, 1) := by decide +kernel
theorem dL_law_473 : decode cL_law 473 = .ok (.iload 5, 2) := by decide +kernel
theorem dL_law_475 : decode cL_law 475 = .ok (.ifCond .ne 15, 3) := by decide +kernel
theorem dL_law_478 : decode cL_law 478 = .ok (.aload_n 3, 1) := by decide +kernel
theorem dL_law_479 : decode cL_law 479 = .ok (.iconst 0, 1) := by decide +kernel
theorem dL_law_480 : decode cL_law 480 = .ok (.laload, 1) := by decide +kernel
theorem dL_law_481 : decode cL_law 481 = .ok (.iload 6, 2) := by decide +kernel
theorem dL_law_483 : decode cL_law 483 = .ok (.i2l, 1) := by decide +kernel
theorem dL_law_484 : decode cL_law 484 = .ok (.lcmp, 1) := by decide +kernel
theorem dL_law_485 : decode cL_law 485 = .ok (.ifCond .eq 5, 3) := by decide +kernel
theorem dL_law_488 : decode cL_law 488 = .ok (.iconst 0, 1) := by decide +kernel
theorem dL_law_489 : decode cL_law 489 = .ok (.ireturn, 1) := by decide +kernel
theorem dL_law_490 : decode cL_law 490 = .ok (.goto 985, 3) := by decide +kernel
theorem dL_law_493 : decode cL_law 493 = .ok (.aload_n 1, 1) := by decide +kernel
theorem dL_law_494 : decode cL_law 494 = .ok (.aload_n 0, 1) := by decide +kernel
theorem dL_law_495 : decode cL_law 495 = .ok (.iload 4, 2) := by decide +kernel
theorem dL_law_497 : decode cL_law 497 = .ok (.iconst 1, 1) := by decide +kernel
theorem dL_law_498 : decode cL_law 498 = .ok (.iadd, 1) := by decide +kernel
theorem dL_law_499 : decode cL_law 499 = .ok (.iaload, 1) := by decide +kernel
theorem dL_law_500 : decode cL_law 500 = .ok (.aload_n 0, 1) := by decide +kernel
theorem dL_law_501 : decode cL_law 501 = .ok (.iload 4, 2) := by decide +kernel
theorem dL_law_503 : decode cL_law 503 = .ok (.iconst 2, 1) := by decide +kernel
theorem dL_law_504 : decode cL_law 504 = .ok (.iadd, 1) := by decide +kernel
theorem dL_law_505 : decode cL_law 505 = .ok (.iaload, 1) := by decide +kernel
theorem dL_law_506 : decode cL_law 506 = .ok (.aload_n 3, 1) := by decide +kernel
theorem dL_law_507 : decode cL_law 507 = .ok (.invokestatic 116, 3) := by decide +kernel
theorem dL_law_510 : decode cL_law 510 = .ok (.istore 5, 2) := by decide +kernel
theorem dL_law_512 : decode cL_law 512 = .ok (.aload_n 2, 1) := by decide +kernel
theorem dL_law_513 : decode cL_law 513 = .ok (.aload_n 0, 1) := by decide +kernel
theorem dL_law_514 : decode cL_law 514 = .ok (.iload 4, 2) := by decide +kernel
theorem dL_law_516 : decode cL_law 516 = .ok (.iconst 1, 1) := by decide +kernel
theorem dL_law_517 : decode cL_law 517 = .ok (.iadd, 1) := by decide +kernel
theorem dL_law_518 : decode cL_law 518 = .ok (.iaload, 1) := by decide +kernel
theorem dL_law_519 : decode cL_law 519 = .ok (.aload_n 0, 1) := by decide +kernel
theorem dL_law_520 : decode cL_law 520 = .ok (.iload 4, 2) := by decide +kernel
theorem dL_law_522 : decode cL_law 522 = .ok (.iconst 2, 1) := by decide +kernel
theorem dL_law_523 : decode cL_law 523 = .ok (.iadd, 1) := by decide +kernel
theorem dL_law_524 : decode cL_law 524 = .ok (.iaload, 1) := by decide +kernel
theorem dL_law_525 : decode cL_law 525 = .ok (.invokevirtual 118, 3) := by decide +kernel
theorem dL_law_528 : decode cL_law 528 = .ok (.istore 6, 2) := by decide +kernel
theorem dL_law_530 : decode cL_law 530 = .ok (.aload_n 2, 1) := by decide +kernel
theorem dL_law_531 : decode cL_law 531 = .ok (.invokevirtual 94, 3) := by decide +kernel
theorem dL_law_534 : decode cL_law 534 = .ok (.iload 5, 2) := by decide +kernel
theorem dL_law_536 : decode cL_law 536 = .ok (.if_icmp .eq 5, 3) := by decide +kernel
theorem dL_law_539 : decode cL_law 539 = .ok (.iconst 0, 1) := by decide +kernel
theorem dL_law_540 : decode cL_law 540 = .ok (.ireturn, 1) := by decide +kernel
theorem dL_law_541 : decode cL_law 541 = .ok (.iload 5, 2) := by decide +kernel
theorem dL_law_543 : decode cL_law 543 = .ok (.ifCond .ne 15, 3) := by decide +kernel
theorem dL_law_546 : decode cL_law 546 = .ok (.aload_n 3, 1) := by decide +kernel
theorem dL_law_547 : decode cL_law 547 = .ok (.iconst 0, 1) := by decide +kernel
theorem dL_law_548 : decode cL_law 548 = .ok (.laload, 1) := by decide +kernel
theorem dL_law_549 : decode cL_law 549 = .ok (.iload 6, 2) := by decide +kernel
theorem dL_law_551 : decode cL_law 551 = .ok (.i2l, 1) := by decide +kernel
theorem dL_law_552 : decode cL_law 552 = .ok (.lcmp, 1) := by decide +kernel
theorem dL_law_553 : decode cL_law 553 = .ok (.ifCond .eq 5, 3) := by decide +kernel
theorem dL_law_556 : decode cL_law 556 = .ok (.iconst 0, 1) := by decide +kernel
theorem dL_law_557 : decode cL_law 557 = .ok (.ireturn, 1) := by decide +kernel
theorem dL_law_558 : decode cL_law 558 = .ok (.goto 917, 3) := by decide +kernel
theorem dL_law_561 : decode cL_law 561 = .ok (.aload_n 1, 1) := by decide +kernel
theorem dL_law_562 : decode cL_law 562 = .ok (.aload_n 0, 1) := by decide +kernel
theorem dL_law_563 : decode cL_law 563 = .ok (.iload 4, 2) := by decide +kernel
theorem dL_law_565 : decode cL_law 565 = .ok (.iconst 1, 1) := by decide +kernel
theorem dL_law_566 : decode cL_law 566 = .ok (.iadd, 1) := by decide +kernel
theorem dL_law_567 : decode cL_law 567 = .ok (.iaload, 1) := by decide +kernel
theorem dL_law_568 : decode cL_law 568 = .ok (.aload_n 0, 1) := by decide +kernel
theorem dL_law_569 : decode cL_law 569 = .ok (.iload 4, 2) := by decide +kernel
theorem dL_law_571 : decode cL_law 571 = .ok (.iconst 2, 1) := by decide +kernel
theorem dL_law_572 : decode cL_law 572 = .ok (.iadd, 1) := by decide +kernel
theorem dL_law_573 : decode cL_law 573 = .ok (.iaload, 1) := by decide +kernel
theorem dL_law_574 : decode cL_law 574 = .ok (.aload_n 3, 1) := by decide +kernel
theorem dL_law_575 : decode cL_law 575 = .ok (.invokestatic 119, 3) := by decide +kernel
theorem dL_law_578 : decode cL_law 578 = .ok (.istore 5, 2) := by decide +kernel
theorem dL_law_580 : decode cL_law 580 = .ok (.aload_n 2, 1) := by decide +kernel
theorem dL_law_581 : decode cL_law 581 = .ok (.aload_n 0, 1) := by decide +kernel
theorem dL_law_582 : decode cL_law 582 = .ok (.iload 4, 2) := by decide +kernel
theorem dL_law_584 : decode cL_law 584 = .ok (.iconst 1, 1) := by decide +kernel
theorem dL_law_585 : decode cL_law 585 = .ok (.iadd, 1) := by decide +kernel
theorem dL_law_586 : decode cL_law 586 = .ok (.iaload, 1) := by decide +kernel
theorem dL_law_587 : decode cL_law 587 = .ok (.aload_n 0, 1) := by decide +kernel
theorem dL_law_588 : decode cL_law 588 = .ok (.iload 4, 2) := by decide +kernel
theorem dL_law_590 : decode cL_law 590 = .ok (.iconst 2, 1) := by decide +kernel
theorem dL_law_591 : decode cL_law 591 = .ok (.iadd, 1) := by decide +kernel
theorem dL_law_592 : decode cL_law 592 = .ok (.iaload, 1) := by decide +kernel
theorem dL_law_593 : decode cL_law 593 = .ok (.invokevirtual 121, 3) := by decide +kernel
theorem dL_law_596 : decode cL_law 596 = .ok (.istore 6, 2) := by decide +kernel
theorem dL_law_598 : decode cL_law 598 = .ok (.aload_n 2, 1) := by decide +kernel
theorem dL_law_599 : decode cL_law 599 = .ok (.invokevirtual 94, 3) := by decide +kernel
theorem dL_law_602 : decode cL_law 602 = .ok (.iload 5, 2) := by decide +kernel
theorem dL_law_604 : decode cL_law 604 = .ok (.if_icmp .eq 5, 3) := by decide +kernel
theorem dL_law_607 : decode cL_law 607 = .ok (.iconst 0, 1) := by decide +kernel
theorem dL_law_608 : decode cL_law 608 = .ok (.ireturn, 1) := by decide +kernel
theorem dL_law_609 : decode cL_law 609 = .ok (.iload 5, 2) := by decide +kernel
theorem dL_law_611 : decode cL_law 611 = .ok (.ifCond .ne 15, 3) := by decide +kernel
theorem dL_law_614 : decode cL_law 614 = .ok (.aload_n 3, 1) := by decide +kernel
theorem dL_law_615 : decode cL_law 615 = .ok (.iconst 0, 1) := by decide +kernel
theorem dL_law_616 : decode cL_law 616 = .ok (.laload, 1) := by decide +kernel
theorem dL_law_617 : decode cL_law 617 = .ok (.iload 6, 2) := by decide +kernel
theorem dL_law_619 : decode cL_law 619 = .ok (.i2l, 1) := by decide +kernel
theorem dL_law_620 : decode cL_law 620 = .ok (.lcmp, 1) := by decide +kernel
theorem dL_law_621 : decode cL_law 621 = .ok (.ifCond .eq 5, 3) := by decide +kernel
theorem dL_law_624 : decode cL_law 624 = .ok (.iconst 0, 1) := by decide +kernel
theorem dL_law_625 : decode cL_law 625 = .ok (.ireturn, 1) := by decide +kernel
theorem dL_law_626 : decode cL_law 626 = .ok (.goto 849, 3) := by decide +kernel
theorem dL_law_629 : decode cL_law 629 = .ok (.aload_n 1, 1) := by decide +kernel
theorem dL_law_630 : decode cL_law 630 = .ok (.aload_n 0, 1) := by decide +kernel
theorem dL_law_631 : decode cL_law 631 = .ok (.iload 4, 2) := by decide +kernel
theorem dL_law_633 : decode cL_law 633 = .ok (.iconst 1, 1) := by decide +kernel
theorem dL_law_634 : decode cL_law 634 = .ok (.iadd, 1) := by decide +kernel
theorem dL_law_635 : decode cL_law 635 = .ok (.iaload, 1) := by decide +kernel
theorem dL_law_636 : decode cL_law 636 = .ok (.aload_n 0, 1) := by decide +kernel
theorem dL_law_637 : decode cL_law 637 = .ok (.iload 4, 2) := by decide +kernel
theorem dL_law_639 : decode cL_law 639 = .ok (.iconst 2, 1) := by decide +kernel
theorem dL_law_640 : decode cL_law 640 = .ok (.iadd, 1) := by decide +kernel
theorem dL_law_641 : decode cL_law 641 = .ok (.iaload, 1) := by decide +kernel
theorem dL_law_642 : decode cL_law 642 = .ok (.aload_n 3, 1) := by decide +kernel
theorem dL_law_643 : decode cL_law 643 = .ok (.invokestatic 122, 3) := by decide +kernel
theorem dL_law_646 : decode cL_law 646 = .ok (.istore 5, 2) := by decide +kernel
theorem dL_law_648 : decode cL_law 648 = .ok (.aload_n 2, 1) := by decide +kernel
theorem dL_law_649 : decode cL_law 649 = .ok (.aload_n 0, 1) := by decide +kernel
theorem dL_law_650 : decode cL_law 650 = .ok (.iload 4, 2) := by decide +kernel
theorem dL_law_652 : decode cL_law 652 = .ok (.iconst 1, 1) := by decide +kernel
theorem dL_law_653 : decode cL_law 653 = .ok (.iadd, 1) := by decide +kernel
theorem dL_law_654 : decode cL_law 654 = .ok (.iaload, 1) := by decide +kernel
theorem dL_law_655 : decode cL_law 655 = .ok (.aload_n 0, 1) := by decide +kernel
theorem dL_law_656 : decode cL_law 656 = .ok (.iload 4, 2) := by decide +kernel
theorem dL_law_658 : decode cL_law 658 = .ok (.iconst 2, 1) := by decide +kernel
theorem dL_law_659 : decode cL_law 659 = .ok (.iadd, 1) := by decide +kernel
theorem dL_law_660 : decode cL_law 660 = .ok (.iaload, 1) := by decide +kernel
theorem dL_law_661 : decode cL_law 661 = .ok (.invokevirtual 124, 3) := by decide +kernel
theorem dL_law_664 : decode cL_law 664 = .ok (.istore 6, 2) := by decide +kernel
theorem dL_law_666 : decode cL_law 666 = .ok (.aload_n 2, 1) := by decide +kernel
theorem dL_law_667 : decode cL_law 667 = .ok (.invokevirtual 94, 3) := by decide +kernel
theorem dL_law_670 : decode cL_law 670 = .ok (.iload 5, 2) := by decide +kernel
theorem dL_law_672 : decode cL_law 672 = .ok (.if_icmp .eq 5, 3) := by decide +kernel
theorem dL_law_675 : decode cL_law 675 = .ok (.iconst 0, 1) := by decide +kernel
theorem dL_law_676 : decode cL_law 676 = .ok (.ireturn, 1) := by decide +kernel
theorem dL_law_677 : decode cL_law 677 = .ok (.iload 5, 2) := by decide +kernel
theorem dL_law_679 : decode cL_law 679 = .ok (.ifCond .ne 15, 3) := by decide +kernel
theorem dL_law_682 : decode cL_law 682 = .ok (.aload_n 3, 1) := by decide +kernel
theorem dL_law_683 : decode cL_law 683 = .ok (.iconst 0, 1) := by decide +kernel
theorem dL_law_684 : decode cL_law 684 = .ok (.laload, 1) := by decide +kernel
theorem dL_law_685 : decode cL_law 685 = .ok (.iload 6, 2) := by decide +kernel
theorem dL_law_687 : decode cL_law 687 = .ok (.i2l, 1) := by decide +kernel
theorem dL_law_688 : decode cL_law 688 = .ok (.lcmp, 1) := by decide +kernel
theorem dL_law_689 : decode cL_law 689 = .ok (.ifCond .eq 5, 3) := by decide +kernel
theorem dL_law_692 : decode cL_law 692 = .ok (.iconst 0, 1) := by decide +kernel
theorem dL_law_693 : decode cL_law 693 = .ok (.ireturn, 1) := by decide +kernel
theorem dL_law_694 : decode cL_law 694 = .ok (.goto 781, 3) := by decide +kernel
theorem dL_law_697 : decode cL_law 697 = .ok (.aload_n 1, 1) := by decide +kernel
theorem dL_law_698 : decode cL_law 698 = .ok (.aload_n 0, 1) := by decide +kernel
theorem dL_law_699 : decode cL_law 699 = .ok (.iload 4, 2) := by decide +kernel
theorem dL_law_701 : decode cL_law 701 = .ok (.iconst 1, 1) := by decide +kernel
theorem dL_law_702 : decode cL_law 702 = .ok (.iadd, 1) := by decide +kernel
theorem dL_law_703 : decode cL_law 703 = .ok (.iaload, 1) := by decide +kernel
theorem dL_law_704 : decode cL_law 704 = .ok (.aload_n 3, 1) := by decide +kernel
theorem dL_law_705 : decode cL_law 705 = .ok (.invokestatic 125, 3) := by decide +kernel
theorem dL_law_708 : decode cL_law 708 = .ok (.istore 5, 2) := by decide +kernel
theorem dL_law_710 : decode cL_law 710 = .ok (.aload_n 2, 1) := by decide +kernel
theorem dL_law_711 : decode cL_law 711 = .ok (.aload_n 0, 1) := by decide +kernel
theorem dL_law_712 : decode cL_law 712 = .ok (.iload 4, 2) := by decide +kernel
theorem dL_law_714 : decode cL_law 714 = .ok (.iconst 1, 1) := by decide +kernel
theorem dL_law_715 : decode cL_law 715 = .ok (.iadd, 1) := by decide +kernel
theorem dL_law_716 : decode cL_law 716 = .ok (.iaload, 1) := by decide +kernel
theorem dL_law_717 : decode cL_law 717 = .ok (.invokevirtual 127, 3) := by decide +kernel
theorem dL_law_720 : decode cL_law 720 = .ok (.istore 6, 2) := by decide +kernel
theorem dL_law_722 : decode cL_law 722 = .ok (.aload_n 2, 1) := by decide +kernel
theorem dL_law_723 : decode cL_law 723 = .ok (.invokevirtual 94, 3) := by decide +kernel
theorem dL_law_726 : decode cL_law 726 = .ok (.iload 5, 2) := by decide +kernel
theorem dL_law_728 : decode cL_law 728 = .ok (.if_icmp .eq 5, 3) := by decide +kernel
theorem dL_law_731 : decode cL_law 731 = .ok (.iconst 0, 1) := by decide +kernel
theorem dL_law_732 : decode cL_law 732 = .ok (.ireturn, 1) := by decide +kernel
theorem dL_law_733 : decode cL_law 733 = .ok (.iload 5, 2) := by decide +kernel
theorem dL_law_735 : decode cL_law 735 = .ok (.ifCond .ne 15, 3) := by decide +kernel
theorem dL_law_738 : decode cL_law 738 = .ok (.aload_n 3, 1) := by decide +kernel
theorem dL_law_739 : decode cL_law 739 = .ok (.iconst 0, 1) := by decide +kernel
theorem dL_law_740 : decode cL_law 740 = .ok (.laload, 1) := by decide +kernel
theorem dL_law_741 : decode cL_law 741 = .ok (.iload 6, 2) := by decide +kernel
theorem dL_law_743 : decode cL_law 743 = .ok (.i2l, 1) := by decide +kernel
theorem dL_law_744 : decode cL_law 744 = .ok (.lcmp, 1) := by decide +kernel
theorem dL_law_745 : decode cL_law 745 = .ok (.ifCond .eq 5, 3) := by decide +kernel
theorem dL_law_748 : decode cL_law 748 = .ok (.iconst 0, 1) := by decide +kernel
theorem dL_law_749 : decode cL_law 749 = .ok (.ireturn, 1) := by decide +kernel
theorem dL_law_750 : decode cL_law 750 = .ok (.goto 725, 3) := by decide +kernel
theorem dL_law_753 : decode cL_law 753 = .ok (.aload_n 1, 1) := by decide +kernel
theorem dL_law_754 : decode cL_law 754 = .ok (.aload_n 0, 1) := by decide +kernel
theorem dL_law_755 : decode cL_law 755 = .ok (.iload 4, 2) := by decide +kernel
theorem dL_law_757 : decode cL_law 757 = .ok (.iconst 1, 1) := by decide +kernel
theorem dL_law_758 : decode cL_law 758 = .ok (.iadd, 1) := by decide +kernel
theorem dL_law_759 : decode cL_law 759 = .ok (.iaload, 1) := by decide +kernel
theorem dL_law_760 : decode cL_law 760 = .ok (.aload_n 0, 1) := by decide +kernel
theorem dL_law_761 : decode cL_law 761 = .ok (.iload 4, 2) := by decide +kernel
theorem dL_law_763 : decode cL_law 763 = .ok (.iconst 2, 1) := by decide +kernel
theorem dL_law_764 : decode cL_law 764 = .ok (.iadd, 1) := by decide +kernel
theorem dL_law_765 : decode cL_law 765 = .ok (.iaload, 1) := by decide +kernel
theorem dL_law_766 : decode cL_law 766 = .ok (.aload_n 3, 1) := by decide +kernel
theorem dL_law_767 : decode cL_law 767 = .ok (.invokestatic 128, 3) := by decide +kernel
theorem dL_law_770 : decode cL_law 770 = .ok (.istore 5, 2) := by decide +kernel
theorem dL_law_772 : decode cL_law 772 = .ok (.aload_n 2, 1) := by decide +kernel
theorem dL_law_773 : decode cL_law 773 = .ok (.aload_n 0, 1) := by decide +kernel
theorem dL_law_774 : decode cL_law 774 = .ok (.iload 4, 2) := by decide +kernel
theorem dL_law_776 : decode cL_law 776 = .ok (.iconst 1, 1) := by decide +kernel
theorem dL_law_777 : decode cL_law 777 = .ok (.iadd, 1) := by decide +kernel
theorem dL_law_778 : decode cL_law 778 = .ok (.iaload, 1) := by decide +kernel
theorem dL_law_779 : decode cL_law 779 = .ok (.aload_n 0, 1) := by decide +kernel
theorem dL_law_780 : decode cL_law 780 = .ok (.iload 4, 2) := by decide +kernel
theorem dL_law_782 : decode cL_law 782 = .ok (.iconst 2, 1) := by decide +kernel
theorem dL_law_783 : decode cL_law 783 = .ok (.iadd, 1) := by decide +kernel
theorem dL_law_784 : decode cL_law 784 = .ok (.iaload, 1) := by decide +kernel
theorem dL_law_785 : decode cL_law 785 = .ok (.invokevirtual 130, 3) := by decide +kernel
theorem dL_law_788 : decode cL_law 788 = .ok (.istore 6, 2) := by decide +kernel
theorem dL_law_790 : decode cL_law 790 = .ok (.aload_n 2, 1) := by decide +kernel
theorem dL_law_791 : decode cL_law 791 = .ok (.invokevirtual 94, 3) := by decide +kernel
theorem dL_law_794 : decode cL_law 794 = .ok (.iload 5, 2) := by decide +kernel
theorem dL_law_796 : decode cL_law 796 = .ok (.if_icmp .eq 5, 3) := by decide +kernel
theorem dL_law_799 : decode cL_law 799 = .ok (.iconst 0, 1) := by decide +kernel
theorem dL_law_800 : decode cL_law 800 = .ok (.ireturn, 1) := by decide +kernel
theorem dL_law_801 : decode cL_law 801 = .ok (.iload 5, 2) := by decide +kernel
theorem dL_law_803 : decode cL_law 803 = .ok (.ifCond .ne 15, 3) := by decide +kernel
theorem dL_law_806 : decode cL_law 806 = .ok (.aload_n 3, 1) := by decide +kernel
theorem dL_law_807 : decode cL_law 807 = .ok (.iconst 0, 1) := by decide +kernel
theorem dL_law_808 : decode cL_law 808 = .ok (.laload, 1) := by decide +kernel
theorem dL_law_809 : decode cL_law 809 = .ok (.iload 6, 2) := by decide +kernel
theorem dL_law_811 : decode cL_law 811 = .ok (.i2l, 1) := by decide +kernel
theorem dL_law_812 : decode cL_law 812 = .ok (.lcmp, 1) := by decide +kernel
theorem dL_law_813 : decode cL_law 813 = .ok (.ifCond .eq 5, 3) := by decide +kernel
theorem dL_law_816 : decode cL_law 816 = .ok (.iconst 0, 1) := by decide +kernel
theorem dL_law_817 : decode cL_law 817 = .ok (.ireturn, 1) := by decide +kernel
theorem dL_law_818 : decode cL_law 818 = .ok (.goto 657, 3) := by decide +kernel
theorem dL_law_821 : decode cL_law 821 = .ok (.aload_n 1, 1) := by decide +kernel
theorem dL_law_822 : decode cL_law 822 = .ok (.aload_n 0, 1) := by decide +kernel
theorem dL_law_823 : decode cL_law 823 = .ok (.iload 4, 2) := by decide +kernel
theorem dL_law_825 : decode cL_law 825 = .ok (.iconst 1, 1) := by decide +kernel
theorem dL_law_826 : decode cL_law 826 = .ok (.iadd, 1) := by decide +kernel
theorem dL_law_827 : decode cL_law 827 = .ok (.iaload, 1) := by decide +kernel
theorem dL_law_828 : decode cL_law 828 = .ok (.aload_n 0, 1) := by decide +kernel
theorem dL_law_829 : decode cL_law 829 = .ok (.iload 4, 2) := by decide +kernel
theorem dL_law_831 : decode cL_law 831 = .ok (.iconst 2, 1) := by decide +kernel
theorem dL_law_832 : decode cL_law 832 = .ok (.iadd, 1) := by decide +kernel
theorem dL_law_833 : decode cL_law 833 = .ok (.iaload, 1) := by decide +kernel
theorem dL_law_834 : decode cL_law 834 = .ok (.aload_n 3, 1) := by decide +kernel
theorem dL_law_835 : decode cL_law 835 = .ok (.invokestatic 131, 3) := by decide +kernel
theorem dL_law_838 : decode cL_law 838 = .ok (.istore 5, 2) := by decide +kernel
theorem dL_law_840 : decode cL_law 840 = .ok (.aload_n 2, 1) := by decide +kernel
theorem dL_law_841 : decode cL_law 841 = .ok (.aload_n 0, 1) := by decide +kernel
theorem dL_law_842 : decode cL_law 842 = .ok (.iload 4, 2) := by decide +kernel
theorem dL_law_844 : decode cL_law 844 = .ok (.iconst 1, 1) := by decide +kernel
theorem dL_law_845 : decode cL_law 845 = .ok (.iadd, 1) := by decide +kernel
theorem dL_law_846 : decode cL_law 846 = .ok (.iaload, 1) := by decide +kernel
theorem dL_law_847 : decode cL_law 847 = .ok (.aload_n 0, 1) := by decide +kernel
theorem dL_law_848 : decode cL_law 848 = .ok (.iload 4, 2) := by decide +kernel
theorem dL_law_850 : decode cL_law 850 = .ok (.iconst 2, 1) := by decide +kernel
theorem dL_law_851 : decode cL_law 851 = .ok (.iadd, 1) := by decide +kernel
theorem dL_law_852 : decode cL_law 852 = .ok (.iaload, 1) := by decide +kernel
theorem dL_law_853 : decode cL_law 853 = .ok (.invokevirtual 133, 3) := by decide +kernel
theorem dL_law_856 : decode cL_law 856 = .ok (.istore 6, 2) := by decide +kernel
theorem dL_law_858 : decode cL_law 858 = .ok (.aload_n 2, 1) := by decide +kernel
theorem dL_law_859 : decode cL_law 859 = .ok (.invokevirtual 94, 3) := by decide +kernel
theorem dL_law_862 : decode cL_law 862 = .ok (.iload 5, 2) := by decide +kernel
theorem dL_law_864 : decode cL_law 864 = .ok (.if_icmp .eq 5, 3) := by decide +kernel
theorem dL_law_867 : decode cL_law 867 = .ok (.iconst 0, 1) := by decide +kernel
theorem dL_law_868 : decode cL_law 868 = .ok (.ireturn, 1) := by decide +kernel
theorem dL_law_869 : decode cL_law 869 = .ok (.iload 5, 2) := by decide +kernel
theorem dL_law_871 : decode cL_law 871 = .ok (.ifCond .ne 15, 3) := by decide +kernel
theorem dL_law_874 : decode cL_law 874 = .ok (.aload_n 3, 1) := by decide +kernel
theorem dL_law_875 : decode cL_law 875 = .ok (.iconst 0, 1) := by decide +kernel
theorem dL_law_876 : decode cL_law 876 = .ok (.laload, 1) := by decide +kernel
theorem dL_law_877 : decode cL_law 877 = .ok (.iload 6, 2) := by decide +kernel
theorem dL_law_879 : decode cL_law 879 = .ok (.i2l, 1) := by decide +kernel
theorem dL_law_880 : decode cL_law 880 = .ok (.lcmp, 1) := by decide +kernel
theorem dL_law_881 : decode cL_law 881 = .ok (.ifCond .eq 5, 3) := by decide +kernel
theorem dL_law_884 : decode cL_law 884 = .ok (.iconst 0, 1) := by decide +kernel
theorem dL_law_885 : decode cL_law 885 = .ok (.ireturn, 1) := by decide +kernel
theorem dL_law_886 : decode cL_law 886 = .ok (.goto 589, 3) := by decide +kernel
theorem dL_law_889 : decode cL_law 889 = .ok (.aload_n 1, 1) := by decide +kernel
theorem dL_law_890 : decode cL_law 890 = .ok (.aload_n 0, 1) := by decide +kernel
theorem dL_law_891 : decode cL_law 891 = .ok (.iload 4, 2) := by decide +kernel
theorem dL_law_893 : decode cL_law 893 = .ok (.iconst 1, 1) := by decide +kernel
theorem dL_law_894 : decode cL_law 894 = .ok (.iadd, 1) := by decide +kernel
theorem dL_law_895 : decode cL_law 895 = .ok (.iaload, 1) := by decide +kernel
theorem dL_law_896 : decode cL_law 896 = .ok (.aload_n 3, 1) := by decide +kernel
theorem dL_law_897 : decode cL_law 897 = .ok (.invokestatic 134, 3) := by decide +kernel
theorem dL_law_900 : decode cL_law 900 = .ok (.istore 5, 2) := by decide +kernel
theorem dL_law_902 : decode cL_law 902 = .ok (.aload_n 2, 1) := by decide +kernel
theorem dL_law_903 : decode cL_law 903 = .ok (.aload_n 0, 1) := by decide +kernel
theorem dL_law_904 : decode cL_law 904 = .ok (.iload 4, 2) := by decide +kernel
theorem dL_law_906 : decode cL_law 906 = .ok (.iconst 1, 1) := by decide +kernel
theorem dL_law_907 : decode cL_law 907 = .ok (.iadd, 1) := by decide +kernel
theorem dL_law_908 : decode cL_law 908 = .ok (.iaload, 1) := by decide +kernel
theorem dL_law_909 : decode cL_law 909 = .ok (.invokevirtual 136, 3) := by decide +kernel
theorem dL_law_912 : decode cL_law 912 = .ok (.istore 6, 2) := by decide +kernel
theorem dL_law_914 : decode cL_law 914 = .ok (.aload_n 2, 1) := by decide +kernel
theorem dL_law_915 : decode cL_law 915 = .ok (.invokevirtual 94, 3) := by decide +kernel
theorem dL_law_918 : decode cL_law 918 = .ok (.iload 5, 2) := by decide +kernel
theorem dL_law_920 : decode cL_law 920 = .ok (.if_icmp .eq 5, 3) := by decide +kernel
theorem dL_law_923 : decode cL_law 923 = .ok (.iconst 0, 1) := by decide +kernel
theorem dL_law_924 : decode cL_law 924 = .ok (.ireturn, 1) := by decide +kernel
theorem dL_law_925 : decode cL_law 925 = .ok (.iload 5, 2) := by decide +kernel
theorem dL_law_927 : decode cL_law 927 = .ok (.ifCond .ne 15, 3) := by decide +kernel
theorem dL_law_930 : decode cL_law 930 = .ok (.aload_n 3, 1) := by decide +kernel
theorem dL_law_931 : decode cL_law 931 = .ok (.iconst 0, 1) := by decide +kernel
theorem dL_law_932 : decode cL_law 932 = .ok (.laload, 1) := by decide +kernel
theorem dL_law_933 : decode cL_law 933 = .ok (.iload 6, 2) := by decide +kernel
theorem dL_law_935 : decode cL_law 935 = .ok (.i2l, 1) := by decide +kernel
theorem dL_law_936 : decode cL_law 936 = .ok (.lcmp, 1) := by decide +kernel
theorem dL_law_937 : decode cL_law 937 = .ok (.ifCond .eq 5, 3) := by decide +kernel
theorem dL_law_940 : decode cL_law 940 = .ok (.iconst 0, 1) := by decide +kernel
theorem dL_law_941 : decode cL_law 941 = .ok (.ireturn, 1) := by decide +kernel
theorem dL_law_942 : decode cL_law 942 = .ok (.goto 533, 3) := by decide +kernel
theorem dL_law_945 : decode cL_law 945 = .ok (.aload_n 1, 1) := by decide +kernel
theorem dL_law_946 : decode cL_law 946 = .ok (.aload_n 0, 1) := by decide +kernel
theorem dL_law_947 : decode cL_law 947 = .ok (.iload 4, 2) := by decide +kernel
theorem dL_law_949 : decode cL_law 949 = .ok (.iconst 1, 1) := by decide +kernel
theorem dL_law_950 : decode cL_law 950 = .ok (.iadd, 1) := by decide +kernel
theorem dL_law_951 : decode cL_law 951 = .ok (.iaload, 1) := by decide +kernel
theorem dL_law_952 : decode cL_law 952 = .ok (.aload_n 3, 1) := by decide +kernel
theorem dL_law_953 : decode cL_law 953 = .ok (.invokestatic 137, 3) := by decide +kernel
theorem dL_law_956 : decode cL_law 956 = .ok (.istore 5, 2) := by decide +kernel
theorem dL_law_958 : decode cL_law 958 = .ok (.aload_n 2, 1) := by decide +kernel
theorem dL_law_959 : decode cL_law 959 = .ok (.aload_n 0, 1) := by decide +kernel
theorem dL_law_960 : decode cL_law 960 = .ok (.iload 4, 2) := by decide +kernel
theorem dL_law_962 : decode cL_law 962 = .ok (.iconst 1, 1) := by decide +kernel
theorem dL_law_963 : decode cL_law 963 = .ok (.iadd, 1) := by decide +kernel
theorem dL_law_964 : decode cL_law 964 = .ok (.iaload, 1) := by decide +kernel
theorem dL_law_965 : decode cL_law 965 = .ok (.invokevirtual 139, 3) := by decide +kernel
theorem dL_law_968 : decode cL_law 968 = .ok (.lstore 6, 2) := by decide +kernel
theorem dL_law_970 : decode cL_law 970 = .ok (.aload_n 2, 1) := by decide +kernel
theorem dL_law_971 : decode cL_law 971 = .ok (.invokevirtual 94, 3) := by decide +kernel
theorem dL_law_974 : decode cL_law 974 = .ok (.iload 5, 2) := by decide +kernel
theorem dL_law_976 : decode cL_law 976 = .ok (.if_icmp .eq 5, 3) := by decide +kernel
theorem dL_law_979 : decode cL_law 979 = .ok (.iconst 0, 1) := by decide +kernel
theorem dL_law_980 : decode cL_law 980 = .ok (.ireturn, 1) := by decide +kernel
theorem dL_law_981 : decode cL_law 981 = .ok (.iload 5, 2) := by decide +kernel
theorem dL_law_983 : decode cL_law 983 = .ok (.ifCond .ne 14, 3) := by decide +kernel
theorem dL_law_986 : decode cL_law 986 = .ok (.aload_n 3, 1) := by decide +kernel
theorem dL_law_987 : decode cL_law 987 = .ok (.iconst 0, 1) := by decide +kernel
theorem dL_law_988 : decode cL_law 988 = .ok (.laload, 1) := by decide +kernel
theorem dL_law_989 : decode cL_law 989 = .ok (.lload 6, 2) := by decide +kernel
theorem dL_law_991 : decode cL_law 991 = .ok (.lcmp, 1) := by decide +kernel
theorem dL_law_992 : decode cL_law 992 = .ok (.ifCond .eq 5, 3) := by decide +kernel
theorem dL_law_995 : decode cL_law 995 = .ok (.iconst 0, 1) := by decide +kernel
theorem dL_law_996 : decode cL_law 996 = .ok (.ireturn, 1) := by decide +kernel
theorem dL_law_997 : decode cL_law 997 = .ok (.goto 478, 3) := by decide +kernel
theorem dL_law_1000 : decode cL_law 1000 = .ok (.aload_n 1, 1) := by decide +kernel
theorem dL_law_1001 : decode cL_law 1001 = .ok (.aload_n 0, 1) := by decide +kernel
theorem dL_law_1002 : decode cL_law 1002 = .ok (.iload 4, 2) := by decide +kernel
theorem dL_law_1004 : decode cL_law 1004 = .ok (.iconst 1, 1) := by decide +kernel
theorem dL_law_1005 : decode cL_law 1005 = .ok (.iadd, 1) := by decide +kernel
theorem dL_law_1006 : decode cL_law 1006 = .ok (.iaload, 1) := by decide +kernel
theorem dL_law_1007 : decode cL_law 1007 = .ok (.aload_n 0, 1) := by decide +kernel
theorem dL_law_1008 : decode cL_law 1008 = .ok (.iload 4, 2) := by decide +kernel
theorem dL_law_1010 : decode cL_law 1010 = .ok (.iconst 2, 1) := by decide +kernel
theorem dL_law_1011 : decode cL_law 1011 = .ok (.iadd, 1) := by decide +kernel
theorem dL_law_1012 : decode cL_law 1012 = .ok (.iaload, 1) := by decide +kernel
theorem dL_law_1013 : decode cL_law 1013 = .ok (.aload_n 3, 1) := by decide +kernel
theorem dL_law_1014 : decode cL_law 1014 = .ok (.invokestatic 140, 3) := by decide +kernel
theorem dL_law_1017 : decode cL_law 1017 = .ok (.istore 5, 2) := by decide +kernel
theorem dL_law_1019 : decode cL_law 1019 = .ok (.aload_n 2, 1) := by decide +kernel
theorem dL_law_1020 : decode cL_law 1020 = .ok (.aload_n 0, 1) := by decide +kernel
theorem dL_law_1021 : decode cL_law 1021 = .ok (.iload 4, 2) := by decide +kernel
theorem dL_law_1023 : decode cL_law 1023 = .ok (.iconst 1, 1) := by decide +kernel
theorem dL_law_1024 : decode cL_law 1024 = .ok (.iadd, 1) := by decide +kernel
theorem dL_law_1025 : decode cL_law 1025 = .ok (.iaload, 1) := by decide +kernel
theorem dL_law_1026 : decode cL_law 1026 = .ok (.aload_n 0, 1) := by decide +kernel
theorem dL_law_1027 : decode cL_law 1027 = .ok (.iload 4, 2) := by decide +kernel
theorem dL_law_1029 : decode cL_law 1029 = .ok (.iconst 2, 1) := by decide +kernel
theorem dL_law_1030 : decode cL_law 1030 = .ok (.iadd, 1) := by decide +kernel
theorem dL_law_1031 : decode cL_law 1031 = .ok (.iaload, 1) := by decide +kernel
theorem dL_law_1032 : decode cL_law 1032 = .ok (.invokevirtual 142, 3) := by decide +kernel
theorem dL_law_1035 : decode cL_law 1035 = .ok (.istore 6, 2) := by decide +kernel
theorem dL_law_1037 : decode cL_law 1037 = .ok (.aload_n 2, 1) := by decide +kernel
theorem dL_law_1038 : decode cL_law 1038 = .ok (.invokevirtual 94, 3) := by decide +kernel
theorem dL_law_1041 : decode cL_law 1041 = .ok (.iload 5, 2) := by decide +kernel
theorem dL_law_1043 : decode cL_law 1043 = .ok (.if_icmp .eq 5, 3) := by decide +kernel
theorem dL_law_1046 : decode cL_law 1046 = .ok (.iconst 0, 1) := by decide +kernel
theorem dL_law_1047 : decode cL_law 1047 = .ok (.ireturn, 1) := by decide +kernel
theorem dL_law_1048 : decode cL_law 1048 = .ok (.iload 5, 2) := by decide +kernel
theorem dL_law_1050 : decode cL_law 1050 = .ok (.ifCond .ne 22, 3) := by decide +kernel
theorem dL_law_1053 : decode cL_law 1053 = .ok (.aload_n 3, 1) := by decide +kernel
theorem dL_law_1054 : decode cL_law 1054 = .ok (.iconst 0, 1) := by decide +kernel
theorem dL_law_1055 : decode cL_law 1055 = .ok (.laload, 1) := by decide +kernel
theorem dL_law_1056 : decode cL_law 1056 = .ok (.iload 6, 2) := by decide +kernel
theorem dL_law_1058 : decode cL_law 1058 = .ok (.ifCond .eq 7, 3) := by decide +kernel
theorem dL_law_1061 : decode cL_law 1061 = .ok (.lconst 1, 1) := by decide +kernel
theorem dL_law_1062 : decode cL_law 1062 = .ok (.goto 4, 3) := by decide +kernel
theorem dL_law_1065 : decode cL_law 1065 = .ok (.lconst 0, 1) := by decide +kernel
theorem dL_law_1066 : decode cL_law 1066 = .ok (.lcmp, 1) := by decide +kernel
theorem dL_law_1067 : decode cL_law 1067 = .ok (.ifCond .eq 5, 3) := by decide +kernel
theorem dL_law_1070 : decode cL_law 1070 = .ok (.iconst 0, 1) := by decide +kernel
theorem dL_law_1071 : decode cL_law 1071 = .ok (.ireturn, 1) := by decide +kernel
theorem dL_law_1072 : decode cL_law 1072 = .ok (.goto 403, 3) := by decide +kernel
theorem dL_law_1075 : decode cL_law 1075 = .ok (.aload_n 1, 1) := by decide +kernel
theorem dL_law_1076 : decode cL_law 1076 = .ok (.aload_n 0, 1) := by decide +kernel
theorem dL_law_1077 : decode cL_law 1077 = .ok (.iload 4, 2) := by decide +kernel
theorem dL_law_1079 : decode cL_law 1079 = .ok (.iconst 1, 1) := by decide +kernel
theorem dL_law_1080 : decode cL_law 1080 = .ok (.iadd, 1) := by decide +kernel
theorem dL_law_1081 : decode cL_law 1081 = .ok (.iaload, 1) := by decide +kernel
theorem dL_law_1082 : decode cL_law 1082 = .ok (.aload_n 3, 1) := by decide +kernel
theorem dL_law_1083 : decode cL_law 1083 = .ok (.invokestatic 143, 3) := by decide +kernel
theorem dL_law_1086 : decode cL_law 1086 = .ok (.istore 5, 2) := by decide +kernel
theorem dL_law_1088 : decode cL_law 1088 = .ok (.aload_n 2, 1) := by decide +kernel
theorem dL_law_1089 : decode cL_law 1089 = .ok (.aload_n 0, 1) := by decide +kernel
theorem dL_law_1090 : decode cL_law 1090 = .ok (.iload 4, 2) := by decide +kernel
theorem dL_law_1092 : decode cL_law 1092 = .ok (.iconst 1, 1) := by decide +kernel
theorem dL_law_1093 : decode cL_law 1093 = .ok (.iadd, 1) := by decide +kernel
theorem dL_law_1094 : decode cL_law 1094 = .ok (.iaload, 1) := by decide +kernel
theorem dL_law_1095 : decode cL_law 1095 = .ok (.invokevirtual 145, 3) := by decide +kernel
theorem dL_law_1098 : decode cL_law 1098 = .ok (.lstore 6, 2) := by decide +kernel
theorem dL_law_1100 : decode cL_law 1100 = .ok (.aload_n 2, 1) := by decide +kernel
theorem dL_law_1101 : decode cL_law 1101 = .ok (.invokevirtual 94, 3) := by decide +kernel
theorem dL_law_1104 : decode cL_law 1104 = .ok (.iload 5, 2) := by decide +kernel
theorem dL_law_1106 : decode cL_law 1106 = .ok (.if_icmp .eq 5, 3) := by decide +kernel
theorem dL_law_1109 : decode cL_law 1109 = .ok (.iconst 0, 1) := by decide +kernel
theorem dL_law_1110 : decode cL_law 1110 = .ok (.ireturn, 1) := by decide +kernel
theorem dL_law_1111 : decode cL_law 1111 = .ok (.iload 5, 2) := by decide +kernel
theorem dL_law_1113 : decode cL_law 1113 = .ok (.ifCond .ne 14, 3) := by decide +kernel
theorem dL_law_1116 : decode cL_law 1116 = .ok (.aload_n 3, 1) := by decide +kernel
theorem dL_law_1117 : decode cL_law 1117 = .ok (.iconst 0, 1) := by decide +kernel
theorem dL_law_1118 : decode cL_law 1118 = .ok (.laload, 1) := by decide +kernel
theorem dL_law_1119 : decode cL_law 1119 = .ok (.lload 6, 2) := by decide +kernel
theorem dL_law_1121 : decode cL_law 1121 = .ok (.lcmp, 1) := by decide +kernel
theorem dL_law_1122 : decode cL_law 1122 = .ok (.ifCond .eq 5, 3) := by decide +kernel
theorem dL_law_1125 : decode cL_law 1125 = .ok (.iconst 0, 1) := by decide +kernel
theorem dL_law_1126 : decode cL_law 1126 = .ok (.ireturn, 1) := by decide +kernel
theorem dL_law_1127 : decode cL_law 1127 = .ok (.goto 348, 3) := by decide +kernel
theorem dL_law_1130 : decode cL_law 1130 = .ok (.aload_n 1, 1) := by decide +kernel
theorem dL_law_1131 : decode cL_law 1131 = .ok (.aload_n 0, 1) := by decide +kernel
theorem dL_law_1132 : decode cL_law 1132 = .ok (.iload 4, 2) := by decide +kernel
theorem dL_law_1134 : decode cL_law 1134 = .ok (.iconst 1, 1) := by decide +kernel
theorem dL_law_1135 : decode cL_law 1135 = .ok (.iadd, 1) := by decide +kernel
theorem dL_law_1136 : decode cL_law 1136 = .ok (.iaload, 1) := by decide +kernel
theorem dL_law_1137 : decode cL_law 1137 = .ok (.aload_n 3, 1) := by decide +kernel
theorem dL_law_1138 : decode cL_law 1138 = .ok (.invokestatic 146, 3) := by decide +kernel
theorem dL_law_1141 : decode cL_law 1141 = .ok (.istore 5, 2) := by decide +kernel
theorem dL_law_1143 : decode cL_law 1143 = .ok (.aload_n 2, 1) := by decide +kernel
theorem dL_law_1144 : decode cL_law 1144 = .ok (.aload_n 0, 1) := by decide +kernel
theorem dL_law_1145 : decode cL_law 1145 = .ok (.iload 4, 2) := by decide +kernel
theorem dL_law_1147 : decode cL_law 1147 = .ok (.iconst 1, 1) := by decide +kernel
theorem dL_law_1148 : decode cL_law 1148 = .ok (.iadd, 1) := by decide +kernel
theorem dL_law_1149 : decode cL_law 1149 = .ok (.iaload, 1) := by decide +kernel
theorem dL_law_1150 : decode cL_law 1150 = .ok (.invokevirtual 148, 3) := by decide +kernel
theorem dL_law_1153 : decode cL_law 1153 = .ok (.lstore 6, 2) := by decide +kernel
theorem dL_law_1155 : decode cL_law 1155 = .ok (.aload_n 2, 1) := by decide +kernel
theorem dL_law_1156 : decode cL_law 1156 = .ok (.invokevirtual 94, 3) := by decide +kernel
theorem dL_law_1159 : decode cL_law 1159 = .ok (.iload 5, 2) := by decide +kernel
theorem dL_law_1161 : decode cL_law 1161 = .ok (.if_icmp .eq 5, 3) := by decide +kernel
theorem dL_law_1164 : decode cL_law 1164 = .ok (.iconst 0, 1) := by decide +kernel
theorem dL_law_1165 : decode cL_law 1165 = .ok (.ireturn, 1) := by decide +kernel
theorem dL_law_1166 : decode cL_law 1166 = .ok (.iload 5, 2) := by decide +kernel
theorem dL_law_1168 : decode cL_law 1168 = .ok (.ifCond .ne 14, 3) := by decide +kernel
theorem dL_law_1171 : decode cL_law 1171 = .ok (.aload_n 3, 1) := by decide +kernel
theorem dL_law_1172 : decode cL_law 1172 = .ok (.iconst 0, 1) := by decide +kernel
theorem dL_law_1173 : decode cL_law 1173 = .ok (.laload, 1) := by decide +kernel
theorem dL_law_1174 : decode cL_law 1174 = .ok (.lload 6, 2) := by decide +kernel
theorem dL_law_1176 : decode cL_law 1176 = .ok (.lcmp, 1) := by decide +kernel
theorem dL_law_1177 : decode cL_law 1177 = .ok (.ifCond .eq 5, 3) := by decide +kernel
theorem dL_law_1180 : decode cL_law 1180 = .ok (.iconst 0, 1) := by decide +kernel
theorem dL_law_1181 : decode cL_law 1181 = .ok (.ireturn, 1) := by decide +kernel
theorem dL_law_1182 : decode cL_law 1182 = .ok (.goto 293, 3) := by decide +kernel
theorem dL_law_1185 : decode cL_law 1185 = .ok (.aload_n 1, 1) := by decide +kernel
theorem dL_law_1186 : decode cL_law 1186 = .ok (.aload_n 0, 1) := by decide +kernel
theorem dL_law_1187 : decode cL_law 1187 = .ok (.iload 4, 2) := by decide +kernel
theorem dL_law_1189 : decode cL_law 1189 = .ok (.iconst 1, 1) := by decide +kernel
theorem dL_law_1190 : decode cL_law 1190 = .ok (.iadd, 1) := by decide +kernel
theorem dL_law_1191 : decode cL_law 1191 = .ok (.iaload, 1) := by decide +kernel
theorem dL_law_1192 : decode cL_law 1192 = .ok (.aload_n 0, 1) := by decide +kernel
theorem dL_law_1193 : decode cL_law 1193 = .ok (.iload 4, 2) := by decide +kernel
theorem dL_law_1195 : decode cL_law 1195 = .ok (.iconst 2, 1) := by decide +kernel
theorem dL_law_1196 : decode cL_law 1196 = .ok (.iadd, 1) := by decide +kernel
theorem dL_law_1197 : decode cL_law 1197 = .ok (.iaload, 1) := by decide +kernel
theorem dL_law_1198 : decode cL_law 1198 = .ok (.aload_n 3, 1) := by decide +kernel
theorem dL_law_1199 : decode cL_law 1199 = .ok (.invokestatic 149, 3) := by decide +kernel
theorem dL_law_1202 : decode cL_law 1202 = .ok (.istore 5, 2) := by decide +kernel
theorem dL_law_1204 : decode cL_law 1204 = .ok (.aload_n 2, 1) := by decide +kernel
theorem dL_law_1205 : decode cL_law 1205 = .ok (.aload_n 0, 1) := by decide +kernel
theorem dL_law_1206 : decode cL_law 1206 = .ok (.iload 4, 2) := by decide +kernel
theorem dL_law_1208 : decode cL_law 1208 = .ok (.iconst 1, 1) := by decide +kernel
theorem dL_law_1209 : decode cL_law 1209 = .ok (.iadd, 1) := by decide +kernel
theorem dL_law_1210 : decode cL_law 1210 = .ok (.iaload, 1) := by decide +kernel
theorem dL_law_1211 : decode cL_law 1211 = .ok (.aload_n 0, 1) := by decide +kernel
theorem dL_law_1212 : decode cL_law 1212 = .ok (.iload 4, 2) := by decide +kernel
theorem dL_law_1214 : decode cL_law 1214 = .ok (.iconst 2, 1) := by decide +kernel
theorem dL_law_1215 : decode cL_law 1215 = .ok (.iadd, 1) := by decide +kernel
theorem dL_law_1216 : decode cL_law 1216 = .ok (.iaload, 1) := by decide +kernel
theorem dL_law_1217 : decode cL_law 1217 = .ok (.invokevirtual 151, 3) := by decide +kernel
theorem dL_law_1220 : decode cL_law 1220 = .ok (.lstore 6, 2) := by decide +kernel
theorem dL_law_1222 : decode cL_law 1222 = .ok (.aload_n 2, 1) := by decide +kernel
theorem dL_law_1223 : decode cL_law 1223 = .ok (.invokevirtual 94, 3) := by decide +kernel
theorem dL_law_1226 : decode cL_law 1226 = .ok (.iload 5, 2) := by decide +kernel
theorem dL_law_1228 : decode cL_law 1228 = .ok (.if_icmp .eq 5, 3) := by decide +kernel
theorem dL_law_1231 : decode cL_law 1231 = .ok (.iconst 0, 1) := by decide +kernel
theorem dL_law_1232 : decode cL_law 1232 = .ok (.ireturn, 1) := by decide +kernel
theorem dL_law_1233 : decode cL_law 1233 = .ok (.iload 5, 2) := by decide +kernel
theorem dL_law_1235 : decode cL_law 1235 = .ok (.ifCond .ne 14, 3) := by decide +kernel
theorem dL_law_1238 : decode cL_law 1238 = .ok (.aload_n 3, 1) := by decide +kernel
theorem dL_law_1239 : decode cL_law 1239 = .ok (.iconst 0, 1) := by decide +kernel
theorem dL_law_1240 : decode cL_law 1240 = .ok (.laload, 1) := by decide +kernel
theorem dL_law_1241 : decode cL_law 1241 = .ok (.lload 6, 2) := by decide +kernel
theorem dL_law_1243 : decode cL_law 1243 = .ok (.lcmp, 1) := by decide +kernel
theorem dL_law_1244 : decode cL_law 1244 = .ok (.ifCond .eq 5, 3) := by decide +kernel
theorem dL_law_1247 : decode cL_law 1247 = .ok (.iconst 0, 1) := by decide +kernel
theorem dL_law_1248 : decode cL_law 1248 = .ok (.ireturn, 1) := by decide +kernel
theorem dL_law_1249 : decode cL_law 1249 = .ok (.goto 226, 3) := by decide +kernel
theorem dL_law_1252 : decode cL_law 1252 = .ok (.aload_n 1, 1) := by decide +kernel
theorem dL_law_1253 : decode cL_law 1253 = .ok (.aload_n 0, 1) := by decide +kernel
theorem dL_law_1254 : decode cL_law 1254 = .ok (.iload 4, 2) := by decide +kernel
theorem dL_law_1256 : decode cL_law 1256 = .ok (.iconst 1, 1) := by decide +kernel
theorem dL_law_1257 : decode cL_law 1257 = .ok (.iadd, 1) := by decide +kernel
theorem dL_law_1258 : decode cL_law 1258 = .ok (.iaload, 1) := by decide +kernel
theorem dL_law_1259 : decode cL_law 1259 = .ok (.aload_n 3, 1) := by decide +kernel
theorem dL_law_1260 : decode cL_law 1260 = .ok (.invokestatic 152, 3) := by decide +kernel
theorem dL_law_1263 : decode cL_law 1263 = .ok (.istore 5, 2) := by decide +kernel
theorem dL_law_1265 : decode cL_law 1265 = .ok (.aload_n 2, 1) := by decide +kernel
theorem dL_law_1266 : decode cL_law 1266 = .ok (.aload_n 0, 1) := by decide +kernel
theorem dL_law_1267 : decode cL_law 1267 = .ok (.iload 4, 2) := by decide +kernel
theorem dL_law_1269 : decode cL_law 1269 = .ok (.iconst 1, 1) := by decide +kernel
theorem dL_law_1270 : decode cL_law 1270 = .ok (.iadd, 1) := by decide +kernel
theorem dL_law_1271 : decode cL_law 1271 = .ok (.iaload, 1) := by decide +kernel
theorem dL_law_1272 : decode cL_law 1272 = .ok (.invokevirtual 154, 3) := by decide +kernel
theorem dL_law_1275 : decode cL_law 1275 = .ok (.istore 6, 2) := by decide +kernel
theorem dL_law_1277 : decode cL_law 1277 = .ok (.aload_n 2, 1) := by decide +kernel
theorem dL_law_1278 : decode cL_law 1278 = .ok (.invokevirtual 94, 3) := by decide +kernel
theorem dL_law_1281 : decode cL_law 1281 = .ok (.iload 5, 2) := by decide +kernel
theorem dL_law_1283 : decode cL_law 1283 = .ok (.if_icmp .eq 5, 3) := by decide +kernel
theorem dL_law_1286 : decode cL_law 1286 = .ok (.iconst 0, 1) := by decide +kernel
theorem dL_law_1287 : decode cL_law 1287 = .ok (.ireturn, 1) := by decide +kernel
theorem dL_law_1288 : decode cL_law 1288 = .ok (.iload 5, 2) := by decide +kernel
theorem dL_law_1290 : decode cL_law 1290 = .ok (.ifCond .ne 15, 3) := by decide +kernel
theorem dL_law_1293 : decode cL_law 1293 = .ok (.aload_n 3, 1) := by decide +kernel
theorem dL_law_1294 : decode cL_law 1294 = .ok (.iconst 0, 1) := by decide +kernel
theorem dL_law_1295 : decode cL_law 1295 = .ok (.laload, 1) := by decide +kernel
theorem dL_law_1296 : decode cL_law 1296 = .ok (.iload 6, 2) := by decide +kernel
theorem dL_law_1298 : decode cL_law 1298 = .ok (.i2l, 1) := by decide +kernel
theorem dL_law_1299 : decode cL_law 1299 = .ok (.lcmp, 1) := by decide +kernel
theorem dL_law_1300 : decode cL_law 1300 = .ok (.ifCond .eq 5, 3) := by decide +kernel
theorem dL_law_1303 : decode cL_law 1303 = .ok (.iconst 0, 1) := by decide +kernel
theorem dL_law_1304 : decode cL_law 1304 = .ok (.ireturn, 1) := by decide +kernel
theorem dL_law_1305 : decode cL_law 1305 = .ok (.goto 170, 3) := by decide +kernel
theorem dL_law_1308 : decode cL_law 1308 = .ok (.aload_n 1, 1) := by decide +kernel
theorem dL_law_1309 : decode cL_law 1309 = .ok (.aload_n 0, 1) := by decide +kernel
theorem dL_law_1310 : decode cL_law 1310 = .ok (.iload 4, 2) := by decide +kernel
theorem dL_law_1312 : decode cL_law 1312 = .ok (.iconst 1, 1) := by decide +kernel
theorem dL_law_1313 : decode cL_law 1313 = .ok (.iadd, 1) := by decide +kernel
theorem dL_law_1314 : decode cL_law 1314 = .ok (.iaload, 1) := by decide +kernel
theorem dL_law_1315 : decode cL_law 1315 = .ok (.aload_n 3, 1) := by decide +kernel
theorem dL_law_1316 : decode cL_law 1316 = .ok (.invokestatic 155, 3) := by decide +kernel
theorem dL_law_1319 : decode cL_law 1319 = .ok (.istore 5, 2) := by decide +kernel
theorem dL_law_1321 : decode cL_law 1321 = .ok (.aload_n 2, 1) := by decide +kernel
theorem dL_law_1322 : decode cL_law 1322 = .ok (.aload_n 0, 1) := by decide +kernel
theorem dL_law_1323 : decode cL_law 1323 = .ok (.iload 4, 2) := by decide +kernel
theorem dL_law_1325 : decode cL_law 1325 = .ok (.iconst 1, 1) := by decide +kernel
theorem dL_law_1326 : decode cL_law 1326 = .ok (.iadd, 1) := by decide +kernel
theorem dL_law_1327 : decode cL_law 1327 = .ok (.iaload, 1) := by decide +kernel
theorem dL_law_1328 : decode cL_law 1328 = .ok (.invokevirtual 157, 3) := by decide +kernel
theorem dL_law_1331 : decode cL_law 1331 = .ok (.lstore 6, 2) := by decide +kernel
theorem dL_law_1333 : decode cL_law 1333 = .ok (.aload_n 2, 1) := by decide +kernel
theorem dL_law_1334 : decode cL_law 1334 = .ok (.invokevirtual 94, 3) := by decide +kernel
theorem dL_law_1337 : decode cL_law 1337 = .ok (.iload 5, 2) := by decide +kernel
theorem dL_law_1339 : decode cL_law 1339 = .ok (.if_icmp .eq 5, 3) := by decide +kernel
theorem dL_law_1342 : decode cL_law 1342 = .ok (.iconst 0, 1) := by decide +kernel
theorem dL_law_1343 : decode cL_law 1343 = .ok (.ireturn, 1) := by decide +kernel
theorem dL_law_1344 : decode cL_law 1344 = .ok (.iload 5, 2) := by decide +kernel
theorem dL_law_1346 : decode cL_law 1346 = .ok (.ifCond .ne 14, 3) := by decide +kernel
theorem dL_law_1349 : decode cL_law 1349 = .ok (.aload_n 3, 1) := by decide +kernel
theorem dL_law_1350 : decode cL_law 1350 = .ok (.iconst 0, 1) := by decide +kernel
theorem dL_law_1351 : decode cL_law 1351 = .ok (.laload, 1) := by decide +kernel
theorem dL_law_1352 : decode cL_law 1352 = .ok (.lload 6, 2) := by decide +kernel
theorem dL_law_1354 : decode cL_law 1354 = .ok (.lcmp, 1) := by decide +kernel
theorem dL_law_1355 : decode cL_law 1355 = .ok (.ifCond .eq 5, 3) := by decide +kernel
theorem dL_law_1358 : decode cL_law 1358 = .ok (.iconst 0, 1) := by decide +kernel
theorem dL_law_1359 : decode cL_law 1359 = .ok (.ireturn, 1) := by decide +kernel
theorem dL_law_1360 : decode cL_law 1360 = .ok (.goto 115, 3) := by decide +kernel
theorem dL_law_1363 : decode cL_law 1363 = .ok (.aload_n 1, 1) := by decide +kernel
theorem dL_law_1364 : decode cL_law 1364 = .ok (.aload_n 0, 1) := by decide +kernel
theorem dL_law_1365 : decode cL_law 1365 = .ok (.iload 4, 2) := by decide +kernel
theorem dL_law_1367 : decode cL_law 1367 = .ok (.iconst 1, 1) := by decide +kernel
theorem dL_law_1368 : decode cL_law 1368 = .ok (.iadd, 1) := by decide +kernel
theorem dL_law_1369 : decode cL_law 1369 = .ok (.iaload, 1) := by decide +kernel
theorem dL_law_1370 : decode cL_law 1370 = .ok (.aload_n 3, 1) := by decide +kernel
theorem dL_law_1371 : decode cL_law 1371 = .ok (.invokestatic 158, 3) := by decide +kernel
theorem dL_law_1374 : decode cL_law 1374 = .ok (.istore 5, 2) := by decide +kernel
theorem dL_law_1376 : decode cL_law 1376 = .ok (.aload_n 2, 1) := by decide +kernel
theorem dL_law_1377 : decode cL_law 1377 = .ok (.aload_n 0, 1) := by decide +kernel
theorem dL_law_1378 : decode cL_law 1378 = .ok (.iload 4, 2) := by decide +kernel
theorem dL_law_1380 : decode cL_law 1380 = .ok (.iconst 1, 1) := by decide +kernel
theorem dL_law_1381 : decode cL_law 1381 = .ok (.iadd, 1) := by decide +kernel
theorem dL_law_1382 : decode cL_law 1382 = .ok (.iaload, 1) := by decide +kernel
theorem dL_law_1383 : decode cL_law 1383 = .ok (.invokevirtual 160, 3) := by decide +kernel
theorem dL_law_1386 : decode cL_law 1386 = .ok (.istore 6, 2) := by decide +kernel
theorem dL_law_1388 : decode cL_law 1388 = .ok (.aload_n 2, 1) := by decide +kernel
theorem dL_law_1389 : decode cL_law 1389 = .ok (.invokevirtual 94, 3) := by decide +kernel
theorem dL_law_1392 : decode cL_law 1392 = .ok (.iload 5, 2) := by decide +kernel
theorem dL_law_1394 : decode cL_law 1394 = .ok (.if_icmp .eq 5, 3) := by decide +kernel
theorem dL_law_1397 : decode cL_law 1397 = .ok (.iconst 0, 1) := by decide +kernel
theorem dL_law_1398 : decode cL_law 1398 = .ok (.ireturn, 1) := by decide +kernel
theorem dL_law_1399 : decode cL_law 1399 = .ok (.iload 5, 2) := by decide +kernel
theorem dL_law_1401 : decode cL_law 1401 = .ok (.ifCond .ne 15, 3) := by decide +kernel
theorem dL_law_1404 : decode cL_law 1404 = .ok (.aload_n 3, 1) := by decide +kernel
theorem dL_law_1405 : decode cL_law 1405 = .ok (.iconst 0, 1) := by decide +kernel
theorem dL_law_1406 : decode cL_law 1406 = .ok (.laload, 1) := by decide +kernel
theorem dL_law_1407 : decode cL_law 1407 = .ok (.iload 6, 2) := by decide +kernel
theorem dL_law_1409 : decode cL_law 1409 = .ok (.i2l, 1) := by decide +kernel
theorem dL_law_1410 : decode cL_law 1410 = .ok (.lcmp, 1) := by decide +kernel
theorem dL_law_1411 : decode cL_law 1411 = .ok (.ifCond .eq 5, 3) := by decide +kernel
theorem dL_law_1414 : decode cL_law 1414 = .ok (.iconst 0, 1) := by decide +kernel
theorem dL_law_1415 : decode cL_law 1415 = .ok (.ireturn, 1) := by decide +kernel
theorem dL_law_1416 : decode cL_law 1416 = .ok (.goto 59, 3) := by decide +kernel
theorem dL_law_1419 : decode cL_law 1419 = .ok (.aload_n 1, 1) := by decide +kernel
theorem dL_law_1420 : decode cL_law 1420 = .ok (.aload_n 0, 1) := by decide +kernel
theorem dL_law_1421 : decode cL_law 1421 = .ok (.iload 4, 2) := by decide +kernel
theorem dL_law_1423 : decode cL_law 1423 = .ok (.iconst 1, 1) := by decide +kernel
theorem dL_law_1424 : decode cL_law 1424 = .ok (.iadd, 1) := by decide +kernel
theorem dL_law_1425 : decode cL_law 1425 = .ok (.iaload, 1) := by decide +kernel
theorem dL_law_1426 : decode cL_law 1426 = .ok (.aload_n 3, 1) := by decide +kernel
theorem dL_law_1427 : decode cL_law 1427 = .ok (.invokestatic 161, 3) := by decide +kernel
theorem dL_law_1430 : decode cL_law 1430 = .ok (.istore 5, 2) := by decide +kernel
theorem dL_law_1432 : decode cL_law 1432 = .ok (.aload_n 2, 1) := by decide +kernel
theorem dL_law_1433 : decode cL_law 1433 = .ok (.aload_n 0, 1) := by decide +kernel
theorem dL_law_1434 : decode cL_law 1434 = .ok (.iload 4, 2) := by decide +kernel
theorem dL_law_1436 : decode cL_law 1436 = .ok (.iconst 1, 1) := by decide +kernel
theorem dL_law_1437 : decode cL_law 1437 = .ok (.iadd, 1) := by decide +kernel
theorem dL_law_1438 : decode cL_law 1438 = .ok (.iaload, 1) := by decide +kernel
theorem dL_law_1439 : decode cL_law 1439 = .ok (.invokevirtual 163, 3) := by decide +kernel
theorem dL_law_1442 : decode cL_law 1442 = .ok (.istore 6, 2) := by decide +kernel
theorem dL_law_1444 : decode cL_law 1444 = .ok (.aload_n 2, 1) := by decide +kernel
theorem dL_law_1445 : decode cL_law 1445 = .ok (.invokevirtual 94, 3) := by decide +kernel
theorem dL_law_1448 : decode cL_law 1448 = .ok (.iload 5, 2) := by decide +kernel
theorem dL_law_1450 : decode cL_law 1450 = .ok (.if_icmp .eq 5, 3) := by decide +kernel
theorem dL_law_1453 : decode cL_law 1453 = .ok (.iconst 0, 1) := by decide +kernel
theorem dL_law_1454 : decode cL_law 1454 = .ok (.ireturn, 1) := by decide +kernel
theorem dL_law_1455 : decode cL_law 1455 = .ok (.iload 5, 2) := by decide +kernel
theorem dL_law_1457 : decode cL_law 1457 = .ok (.ifCond .ne 15, 3) := by decide +kernel
theorem dL_law_1460 : decode cL_law 1460 = .ok (.aload_n 3, 1) := by decide +kernel
theorem dL_law_1461 : decode cL_law 1461 = .ok (.iconst 0, 1) := by decide +kernel
theorem dL_law_1462 : decode cL_law 1462 = .ok (.laload, 1) := by decide +kernel
theorem dL_law_1463 : decode cL_law 1463 = .ok (.iload 6, 2) := by decide +kernel
theorem dL_law_1465 : decode cL_law 1465 = .ok (.i2l, 1) := by decide +kernel
theorem dL_law_1466 : decode cL_law 1466 = .ok (.lcmp, 1) := by decide +kernel
theorem dL_law_1467 : decode cL_law 1467 = .ok (.ifCond .eq 5, 3) := by decide +kernel
theorem dL_law_1470 : decode cL_law 1470 = .ok (.iconst 0, 1) := by decide +kernel
theorem dL_law_1471 : decode cL_law 1471 = .ok (.ireturn, 1) := by decide +kernel
theorem dL_law_1472 : decode cL_law 1472 = .ok (.goto 3, 3) := by decide +kernel
theorem dL_law_1475 : decode cL_law 1475 = .ok (.iinc 4 4, 3) := by decide +kernel
theorem dL_law_1478 : decode cL_law 1478 = .ok (.goto (-1455), 3) := by decide +kernel
theorem dL_law_1481 : decode cL_law 1481 = .ok (.iconst 1, 1) := by decide +kernel
theorem dL_law_1482 : decode cL_law 1482 = .ok (.ireturn, 1) := by decide +kernel
end
section
-- MY ROWS over the kit's: readers, writers, throwers as three forms of contract; numbers as nI; truth values as eb
section EGA
/-- the addresses of a world -/
def eg_A (w : va_W) : Nat → Prop := fun q => q ∈ w.map Prod.fst
theorem eg_A_eq {w w' : va_W} (h : w'.map Prod.fst = w.map Prod.fst) : eg_A w' = eg_A w := by unfold eg_A; rw [h]
theorem eg_A_of {w : va_W} {k : Nat} {q : Nat × va_E} (h : w[k]? = some q) : eg_A w q.1 := List.mem_map.mpr ⟨q, List.mem_of_getElem? h, rfl⟩
theorem eg_A_ge {w : va_W} {sz q : Nat} (h : eg_A w q) : va_A w sz q := by
  obtain ⟨e, he, h2⟩ := List.mem_map.mp h
  obtain ⟨k, hk⟩ := List.getElem?_of_mem he
  exact Or.inl ⟨k, e.2, by rw [hk, ← h2]⟩
/-- apartness depends on the addresses alone -/
theorem eg_D_same {A : Nat → Prop} {w w' : va_W} (hD : va_D A w) (h : w'.map Prod.fst = w.map Prod.fst) : va_D A w' := by
  have key : ∀ (k : Nat) (q : Nat × va_E), w'[k]? = some q → ∃ q' : Nat × va_E, w[k]? = some q' ∧ q'.1 = q.1 := by
    intro k q hq
    have h1 : (w'.map Prod.fst)[k]? = some q.1 := by rw [List.getElem?_map, hq]; rfl
    rw [h, List.getElem?_map] at h1
    cases hw : w[k]? with
    | none => rw [hw] at h1; cases h1
    | some q' => rw [hw] at h1; exact ⟨q', rfl, Option.some.inj h1⟩
  refine ⟨fun i j p q hp hq e => ?_, fun k q hq => ?_⟩
  · obtain ⟨p', hp', ep⟩ := key i p hp
    obtain ⟨q', hq', eq⟩ := key j q hq
    exact hD.1 i j p' q' hp' hq' (by rw [ep, eq, e])
  · obtain ⟨q', hq', eq⟩ := key k q hq
    rw [← eq]
    exact hD.2 k q' hq'
theorem eg_D_of {A : Nat → Prop} {w : va_W} (hD : va_D A w) : va_D (eg_A w) w := ⟨hD.1, fun _ _ hq => eg_A_of hq⟩
theorem eg_D_in {A : Nat → Prop} {w : va_W} (hD : va_D A w) {q : Nat} (h : eg_A w q) : A q := by
  obtain ⟨e, he, h2⟩ := List.mem_map.mp h
  obtain ⟨k, hk⟩ := List.getElem?_of_mem he
  rw [← h2]
  exact hD.2 k e hk
theorem eg_S_F {A : Nat → Prop} {s t : State} {H : Heap} {locs : List Loc} (h : va_S A s.heap H locs) (ht : t.heap = H) : va_F A s t := h.F ht
end EGA
/-- a truth value as the machine holds it -/
def eb (b : Bool) : Int32 := if b then 1 else 0
theorem eb_0 {b : Bool} : eb b = 0 ↔ b = false := by cases b <;> decide
theorem eb_t : eb true = 1 := rfl
theorem eb_f : eb false = 0 := rfl
theorem eb_nar {b : Bool} : narrow .boolean (.int (eb b)) = .int (eb b) := by cases b <;> rfl
theorem eg_inc1 (i : Nat) : nI i + Int32.ofInt 1 = nI (i + 1) := nI_1 i
theorem eg_inc4 (i : Nat) : nI i + Int32.ofInt 4 = nI (i + 4) := nI_add i 4
theorem eg_dec1 {i : Nat} (h : 0 < i) : nI i + Int32.ofInt (-1) = nI (i - 1) := by
  obtain ⟨j, rfl⟩ : ∃ j, i = j + 1 := ⟨i - 1, by omega⟩
  exact pk_m1 j
theorem eg_cmp0 {x y : Int64} : lg_cmp x y = 0 ↔ x = y := by
  by_cases h1 : y < x
  · have e1 : lg_cmp x y = 1 := by simp [lg_cmp, h1]
    rw [e1]
    constructor
    · intro h; exact absurd h (by decide)
    · intro h; subst h; exact absurd h1 (by rw [Int64.lt_iff_toInt_lt]; omega)
  · by_cases h2 : x = y
    · subst h2
      have e1 : lg_cmp x x = 0 := by simp [lg_cmp]
      rw [e1]; simp
    · have e1 : lg_cmp x y = -1 := by simp [lg_cmp, h1, h2]
      rw [e1]
      constructor
      · intro h; exact absurd h (by decide)
      · intro h; exact absurd h h2
/-- a reader's end: this answer, the heap as it was -/
def eg_R (v : Option Value) : Array Value → State → Outcome → State → Prop := fun _ st oc t => oc = .returned v ∧ t.heap = st.heap
abbrev eg_MR (D : va_G) (tys : List (ClassId × FieldType)) (l : Launch) (y : MethodName) (ws : List Cond) (rm : Room) (av : List Value) (w : va_W) (v : Option Value) : Prop :=
  Met l y ws rm (va_Pc av (fun U => va_P D vwCl w U.heap ∧ va_K D vwCl tys U)) (eg_R v) 0 0 (fun _ => False)
/-- a writer's end: an answer and a world at the same addresses, all else as it was -/
def eg_Wq (D : va_G) (w0 : va_W) (Rq : Option Value → va_W → Prop) : Array Value → State → Outcome → State → Prop := fun _ st oc t =>
  ∃ (v : Option Value) (w1 : va_W), oc = .returned v ∧ Rq v w1 ∧ w1.map Prod.fst = w0.map Prod.fst ∧ va_P D vwCl w1 t.heap ∧ va_F (eg_A w0) st t
abbrev eg_MW (D : va_G) (tys : List (ClassId × FieldType)) (l : Launch) (y : MethodName) (ws : List Cond) (rm : Room) (mc ms : Nat) (av : List Value) (w0 : va_W) (Rq : Option Value → va_W → Prop) : Prop :=
  Met l y ws rm (va_Pc av (fun U => va_P D vwCl w0 U.heap ∧ va_K D vwCl tys U ∧ va_D (fun _ => True) w0)) (eg_Wq D w0 Rq) mc ms (eg_A w0)
/-- the words of throws and catches that speak of classes alone -/
def eg_N (U : State) : Prop := va_Nw (.declares ⟨"java/lang/RuntimeException", "<init>", "(Ljava/lang/String;)V"⟩) U ∧ va_Nw (.declares ⟨"java/lang/Exception", "<init>", "(Ljava/lang/String;)V"⟩) U ∧ va_Nw (.declares ⟨"java/lang/Throwable", "<init>", "(Ljava/lang/String;)V"⟩) U ∧
  va_Nw (.castable "java/lang/IndexOutOfBoundsException" "java/lang/IndexOutOfBoundsException") U ∧ va_Nw (.castable "java/lang/IllegalArgumentException" "java/lang/IllegalArgumentException") U ∧ va_Nw (.castable "java/lang/IllegalStateException" "java/lang/IllegalStateException") U ∧
  va_Nc "java/lang/IllegalArgumentException" "java/lang/IndexOutOfBoundsException" U ∧ va_Nc "java/lang/IllegalStateException" "java/lang/IndexOutOfBoundsException" U ∧ va_Nc "java/lang/IllegalStateException" "java/lang/IllegalArgumentException" U
theorem eg_N.at {s U : State} (h : eg_N s) (hW : s.WarmedH U.vm) : eg_N U :=
  ⟨va_Nw.warmD hW h.1, va_Nw.warmD hW h.2.1, va_Nw.warmD hW h.2.2.1, va_Nw.warmC hW h.2.2.2.1, va_Nw.warmC hW h.2.2.2.2.1, va_Nw.warmC hW h.2.2.2.2.2.1, va_Nc.moved hW.alike h.2.2.2.2.2.2.1, va_Nc.moved hW.alike h.2.2.2.2.2.2.2.1, va_Nc.moved hW.alike h.2.2.2.2.2.2.2.2⟩
theorem eg_N.same {s U : State} (h : eg_N s) (hv : s.vm = U.vm) : eg_N U := h.at (by rw [← hv]; exact State.WarmedH.refl s)
/-- what a throw needs of the JDK's statics and of the constant texts -/
def eg_T (A : Nat → Prop) (U : State) (H : Heap) : Prop := ((vx_Zq Bundle.tN "UNASSIGNED_STACK" Bundle.steD A U H ∧ vx_Zq Bundle.tN "SUPPRESSED_SENTINEL" Bundle.listD A U H) ∧ eg_N U) ∧
  ((∃ a, vk_R RX0 128 "no such author" a U) ∧ (∃ a, vk_R RX0 134 "no such event" a U) ∧ (∃ a, vk_R RX0 136 "no such place" a U) ∧ (∃ a, vk_R RX0 140 "no room for one more event" a U) ∧ (∃ a, vk_R RX0 68 "no such letter" a U))
theorem eg_T.at {A B : Nat → Prop} {s U : State} {H : Heap} {locs : List Loc} (h : eg_T A s s.heap) (hS : va_S A s.heap H locs) (hB : ∀ q, B q → A q) (hU : U.heap = H) (hW : s.WarmedH U.vm) : eg_T B U U.heap := by
  obtain ⟨⟨⟨h1, h2⟩, h3⟩, ⟨a1, k1⟩, ⟨a2, k2⟩, ⟨a3, k3⟩, ⟨a4, k4⟩, a5, k5⟩ := h
  rw [hU]
  exact ⟨⟨⟨((h1.kept hS.2.1).narrow hB).moved hW.alike, ((h2.kept hS.2.1).narrow hB).moved hW.alike⟩, h3.at hW⟩, ⟨a1, vk_R.warm hW k1⟩, ⟨a2, vk_R.warm hW k2⟩, ⟨a3, vk_R.warm hW k3⟩, ⟨a4, vk_R.warm hW k4⟩, a5, vk_R.warm hW k5⟩
theorem eg_T.calling {A : Nat → Prop} {U : State} {g : JFrame} {mk : MethodId} {a : Array Value} (h : eg_T A U U.heap) : eg_T A (U.calling g mk a) (U.calling g mk a).heap := by
  obtain ⟨⟨⟨h1, h2⟩, h3⟩, ⟨a1, k1⟩, ⟨a2, k2⟩, ⟨a3, k3⟩, ⟨a4, k4⟩, a5, k5⟩ := h
  exact ⟨⟨⟨vx_Zq.moved (u := U) (U := U.calling g mk a) (Vm.Alike.refl U.vm) h1, vx_Zq.moved (u := U) (U := U.calling g mk a) (Vm.Alike.refl U.vm) h2⟩, eg_N.same (U := U.calling g mk a) h3 rfl⟩, ⟨a1, vk_R.same rfl k1⟩, ⟨a2, vk_R.same rfl k2⟩, ⟨a3, vk_R.same rfl k3⟩, ⟨a4, vk_R.same rfl k4⟩, a5, vk_R.same rfl k5⟩
/-- a thrower's end: it throws an E, and leaves a world at the same addresses, all else as it was -/
def eg_XC (D : va_G) (w0 : va_W) (E : String) (Rq : va_W → Prop) : String → State → State → Prop := fun E' st t => E' = E ∧ ∃ w1 : va_W, Rq w1 ∧ w1.map Prod.fst = w0.map Prod.fst ∧ va_P D vwCl w1 t.heap ∧ va_F (eg_A w0) st t
abbrev eg_MX (D : va_G) (tys : List (ClassId × FieldType)) (l : Launch) (y : MethodName) (ws : List Cond) (rm : Room) (av : List Value) (w0 : va_W) (E : String) (Rq : va_W → Prop) : Prop :=
  vx_Met l y ws rm (va_Pc av (fun U => va_P D vwCl w0 U.heap ∧ va_K D vwCl tys U ∧ va_D (fun _ => True) w0 ∧ eg_T (eg_A w0) U U.heap)) (fun _ _ _ _ => False) (eg_XC D w0 E Rq) 1 6 (eg_A w0)
section EGR
variable {p : Program} {l : Launch} {e : Env} {R : Room} {s : State} {m : MethodId} {args : Array Value} {below : List Frame} {meth : Method} {c : Code} {H : Heap} {locs : List Loc} {cells slots : Nat} {Q : State → Prop}
variable {cc : ByteArray} {pc : Nat} {ls : Array Slot} {rest st0 : List Value} {D : va_G} {tys : List (ClassId × FieldType)} {w w0 w' : va_W} {A : Nat → Prop} {H0 : Heap} {a : Nat}
theorem eg_iald (hx : p.tables.exec = Jvm.exec) (hb : c.code = cc) (hK : va_K D vwCl tys s) (hP : va_P D vwCl w H) (q0 t0 : Nat) {cA : ClassId} {N i : Nat} {f : Nat → Int32} (ha : w[q0]? = some (a, .inl (cA, N, .inl f))) (ht : tys[t0]? = some (cA, .int)) (hi : i < N) (hN : N < 2 ^ 31) (hdg : decode cc pc = .ok (.iaload, 1))
    (kk : W p l e R s m args below meth c H locs cells slots Q (F0 m (pc + 1) ls (.int (f i) :: rest))) : W p l e R s m args below meth c H locs cells slots Q (F0 m pc ls (.int (nI i) :: .ref a :: rest)) :=
  va_iald hx hb hK hP q0 t0 ha ht (vp_in_nI hi hN) hdg (by rw [nI_clamp (Nat.lt_trans hi hN)]; exact kk)
theorem eg_lald (hx : p.tables.exec = Jvm.exec) (hb : c.code = cc) (hK : va_K D vwCl tys s) (hP : va_P D vwCl w H) (q0 t0 : Nat) {cA : ClassId} {N i : Nat} {f : Nat → Int64} (ha : w[q0]? = some (a, .inl (cA, N, .inr (.inl f)))) (ht : tys[t0]? = some (cA, .long)) (hi : i < N) (hN : N < 2 ^ 31) (hdg : decode cc pc = .ok (.laload, 1))
    (kk : W p l e R s m args below meth c H locs cells slots Q (F0 m (pc + 1) ls (.long (f i) :: rest))) : W p l e R s m args below meth c H locs cells slots Q (F0 m pc ls (.int (nI i) :: .ref a :: rest)) :=
  va_lald hx hb hK hP q0 t0 ha ht (vp_in_nI hi hN) hdg (by rw [nI_clamp (Nat.lt_trans hi hN)]; exact kk)
theorem eg_iast (hx : p.tables.exec = Jvm.exec) (hb : c.code = cc) (hK : va_K D vwCl tys s) (hP : va_P D vwCl w H) (hD : va_D A w0) (hw : w.map Prod.fst = w0.map Prod.fst) (hS : va_S A H0 H locs) (q0 t0 : Nat) {cA : ClassId} {N i : Nat} {f : Nat → Int32} {x : Int32} (ha : w[q0]? = some (a, .inl (cA, N, .inl f))) (ht : tys[t0]? = some (cA, .int)) (hi : i < N) (hN : N < 2 ^ 31) (hdg : decode cc pc = .ok (.iastore, 1)) (hw' : w.set q0 (a, .inl (cA, N, .inl (upd f i x))) = w')
    (kk : ∀ (H1 : Heap) (locs1 : List Loc), va_P D vwCl w' H1 → va_S A H0 H1 locs1 → W p l e R s m args below meth c H1 locs1 cells slots Q (F0 m (pc + 1) ls rest)) : W p l e R s m args below meth c H locs cells slots Q (F0 m pc ls (.int x :: .int (nI i) :: .ref a :: rest)) := by
  refine va_iast hx hb hK hP (eg_D_same hD hw) hS q0 t0 ha ht (vp_in_nI hi hN) hdg (fun H1 locs1 p1 _ s1 => kk H1 locs1 ?_ s1)
  rw [nI_clamp (Nat.lt_trans hi hN), hw'] at p1
  exact p1
theorem eg_last (hx : p.tables.exec = Jvm.exec) (hb : c.code = cc) (hK : va_K D vwCl tys s) (hP : va_P D vwCl w H) (hD : va_D A w0) (hw : w.map Prod.fst = w0.map Prod.fst) (hS : va_S A H0 H locs) (q0 t0 : Nat) {cA : ClassId} {N i : Nat} {f : Nat → Int64} {x : Int64} (ha : w[q0]? = some (a, .inl (cA, N, .inr (.inl f)))) (ht : tys[t0]? = some (cA, .long)) (hi : i < N) (hN : N < 2 ^ 31) (hdg : decode cc pc = .ok (.lastore, 1)) (hw' : w.set q0 (a, .inl (cA, N, .inr (.inl (vp_updL f i x)))) = w')
    (kk : ∀ (H1 : Heap) (locs1 : List Loc), va_P D vwCl w' H1 → va_S A H0 H1 locs1 → W p l e R s m args below meth c H1 locs1 cells slots Q (F0 m (pc + 1) ls rest)) : W p l e R s m args below meth c H locs cells slots Q (F0 m pc ls (.long x :: .int (nI i) :: .ref a :: rest)) := by
  refine va_last hx hb hK hP (eg_D_same hD hw) hS q0 t0 ha ht (vp_in_nI hi hN) hdg (fun H1 locs1 p1 _ s1 => kk H1 locs1 ?_ s1)
  rw [nI_clamp (Nat.lt_trans hi hN), hw'] at p1
  exact p1
theorem eg_ifeq_b (hx : p.tables.exec = Jvm.exec) (hb : c.code = cc) {b : Bool} {off : Int} {tgt : Nat} (hdg : decode cc pc = .ok (.ifCond .eq off, 3)) (ht : (pc : Int) + off = (tgt : Int)) (kt : b = false → W p l e R s m args below meth c H locs cells slots Q (F0 m tgt ls rest)) (kf : b = true → W p l e R s m args below meth c H locs cells slots Q (F0 m (pc + 3) ls rest)) : W p l e R s m args below meth c H locs cells slots Q (F0 m pc ls (.int (eb b) :: rest)) :=
  lv_if_eq hx hb hdg ht (fun h => kt (eb_0.mp h)) (fun h => kf (by cases b with | true => rfl | false => exact absurd rfl h))
theorem eg_ifne_b (hx : p.tables.exec = Jvm.exec) (hb : c.code = cc) {b : Bool} {off : Int} {tgt : Nat} (hdg : decode cc pc = .ok (.ifCond .ne off, 3)) (ht : (pc : Int) + off = (tgt : Int)) (kt : b = true → W p l e R s m args below meth c H locs cells slots Q (F0 m tgt ls rest)) (kf : b = false → W p l e R s m args below meth c H locs cells slots Q (F0 m (pc + 3) ls rest)) : W p l e R s m args below meth c H locs cells slots Q (F0 m pc ls (.int (eb b) :: rest)) :=
  lv_if_ne hx hb hdg ht (fun h => kt (by cases b with | true => rfl | false => exact absurd rfl h)) (fun h => kf (eb_0.mp h))
theorem eg_lcmp_eq (hx : p.tables.exec = Jvm.exec) (hb : c.code = cc) {x y : Int64} {off : Int} {tgt pc1 : Nat} (h1 : decode cc pc = .ok (.lcmp, 1)) (hp : pc + 1 = pc1) (hdg : decode cc pc1 = .ok (.ifCond .eq off, 3)) (ht : (pc1 : Int) + off = (tgt : Int)) (kt : x = y → W p l e R s m args below meth c H locs cells slots Q (F0 m tgt ls rest)) (kf : ¬ x = y → W p l e R s m args below meth c H locs cells slots Q (F0 m (pc1 + 3) ls rest)) : W p l e R s m args below meth c H locs cells slots Q (F0 m pc ls (.long y :: .long x :: rest)) := by
  subst hp
  exact W.lcmp hx hb h1 (lv_if_eq hx hb hdg ht (fun h => kt (eg_cmp0.mp h)) (fun h => kf (fun q => h (eg_cmp0.mpr q))))
theorem eg_lcmp_ne (hx : p.tables.exec = Jvm.exec) (hb : c.code = cc) {x y : Int64} {off : Int} {tgt pc1 : Nat} (h1 : decode cc pc = .ok (.lcmp, 1)) (hp : pc + 1 = pc1) (hdg : decode cc pc1 = .ok (.ifCond .ne off, 3)) (ht : (pc1 : Int) + off = (tgt : Int)) (kt : ¬ x = y → W p l e R s m args below meth c H locs cells slots Q (F0 m tgt ls rest)) (kf : x = y → W p l e R s m args below meth c H locs cells slots Q (F0 m (pc1 + 3) ls rest)) : W p l e R s m args below meth c H locs cells slots Q (F0 m pc ls (.long y :: .long x :: rest)) := by
  subst hp
  exact W.lcmp hx hb h1 (lv_if_ne hx hb hdg ht (fun h => kt (fun q => h (eg_cmp0.mpr q))) (fun h => kf (eg_cmp0.mp h)))
theorem eg_icmp_ge (hx : p.tables.exec = Jvm.exec) (hb : c.code = cc) {i j : Nat} {off : Int} {tgt : Nat} (hdg : decode cc pc = .ok (.if_icmp .ge off, 3)) (ht : (pc : Int) + off = (tgt : Int)) (hi : i < 2 ^ 31) (hj : j < 2 ^ 31) (kt : j ≤ i → W p l e R s m args below meth c H locs cells slots Q (F0 m tgt ls rest)) (kf : i < j → W p l e R s m args below meth c H locs cells slots Q (F0 m (pc + 3) ls rest)) : W p l e R s m args below meth c H locs cells slots Q (F0 m pc ls (.int (nI j) :: .int (nI i) :: rest)) :=
  lv_icmp_ge hx hb hdg ht (fun h => kt ((nI_leI hj hi).mp h)) (fun h => kf (Nat.lt_of_not_le (fun q => h ((nI_leI hj hi).mpr q))))
theorem eg_icmp_lt (hx : p.tables.exec = Jvm.exec) (hb : c.code = cc) {i j : Nat} {off : Int} {tgt : Nat} (hdg : decode cc pc = .ok (.if_icmp .lt off, 3)) (ht : (pc : Int) + off = (tgt : Int)) (hi : i < 2 ^ 31) (hj : j < 2 ^ 31) (kt : i < j → W p l e R s m args below meth c H locs cells slots Q (F0 m tgt ls rest)) (kf : j ≤ i → W p l e R s m args below meth c H locs cells slots Q (F0 m (pc + 3) ls rest)) : W p l e R s m args below meth c H locs cells slots Q (F0 m pc ls (.int (nI j) :: .int (nI i) :: rest)) :=
  lv_icmp_lt hx hb hdg ht (fun h => kt ((nI_ltI hi hj).mp h)) (fun h => kf (Nat.le_of_not_lt (fun q => h ((nI_ltI hi hj).mpr q))))
theorem eg_icmp_gt (hx : p.tables.exec = Jvm.exec) (hb : c.code = cc) {i j : Nat} {off : Int} {tgt : Nat} (hdg : decode cc pc = .ok (.if_icmp .gt off, 3)) (ht : (pc : Int) + off = (tgt : Int)) (hi : i < 2 ^ 31) (hj : j < 2 ^ 31) (kt : j < i → W p l e R s m args below meth c H locs cells slots Q (F0 m tgt ls rest)) (kf : i ≤ j → W p l e R s m args below meth c H locs cells slots Q (F0 m (pc + 3) ls rest)) : W p l e R s m args below meth c H locs cells slots Q (F0 m pc ls (.int (nI j) :: .int (nI i) :: rest)) :=
  lv_icmp_gt hx hb hdg ht (fun h => kt ((nI_ltI hj hi).mp h)) (fun h => kf (Nat.le_of_not_lt (fun q => h ((nI_ltI hj hi).mpr q))))
theorem eg_icmp_le (hx : p.tables.exec = Jvm.exec) (hb : c.code = cc) {i j : Nat} {off : Int} {tgt : Nat} (hdg : decode cc pc = .ok (.if_icmp .le off, 3)) (ht : (pc : Int) + off = (tgt : Int)) (hi : i < 2 ^ 31) (hj : j < 2 ^ 31) (kt : i ≤ j → W p l e R s m args below meth c H locs cells slots Q (F0 m tgt ls rest)) (kf : j < i → W p l e R s m args below meth c H locs cells slots Q (F0 m (pc + 3) ls rest)) : W p l e R s m args below meth c H locs cells slots Q (F0 m pc ls (.int (nI j) :: .int (nI i) :: rest)) :=
  lv_icmp_le hx hb hdg ht (fun h => kt ((nI_leI hi hj).mp h)) (fun h => kf (Nat.lt_of_not_le (fun q => h ((nI_leI hi hj).mpr q))))
theorem eg_if_le (hx : p.tables.exec = Jvm.exec) (hb : c.code = cc) {i : Nat} {off : Int} {tgt : Nat} (hdg : decode cc pc = .ok (.ifCond .le off, 3)) (ht : (pc : Int) + off = (tgt : Int)) (hi : i < 2 ^ 31) (kt : i = 0 → W p l e R s m args below meth c H locs cells slots Q (F0 m tgt ls rest)) (kf : 0 < i → W p l e R s m args below meth c H locs cells slots Q (F0 m (pc + 3) ls rest)) : W p l e R s m args below meth c H locs cells slots Q (F0 m pc ls (.int (nI i) :: rest)) :=
  lv_if_le hx hb hdg ht (fun h => kt (by have := (nI_leI (a := i) (b := 0) hi (by decide)).mp (by rw [nI_0]; exact h); omega)) (fun h => kf (Nat.pos_of_ne_zero (fun q => h (by rw [q, nI_0]; decide))))
theorem eg_if_ne (hx : p.tables.exec = Jvm.exec) (hb : c.code = cc) {i : Nat} {off : Int} {tgt : Nat} (hdg : decode cc pc = .ok (.ifCond .ne off, 3)) (ht : (pc : Int) + off = (tgt : Int)) (hi : i < 2 ^ 31) (kt : 0 < i → W p l e R s m args below meth c H locs cells slots Q (F0 m tgt ls rest)) (kf : i = 0 → W p l e R s m args below meth c H locs cells slots Q (F0 m (pc + 3) ls rest)) : W p l e R s m args below meth c H locs cells slots Q (F0 m pc ls (.int (nI i) :: rest)) :=
  lv_if_ne hx hb hdg ht (fun h => kt (Nat.pos_of_ne_zero (fun q => h (by rw [q, nI_0])))) (fun h => kf (Nat.eq_zero_of_not_pos (fun q => nI_ne0 q hi h)))
theorem eg_if_lt (hx : p.tables.exec = Jvm.exec) (hb : c.code = cc) {i : Nat} {off : Int} (hdg : decode cc pc = .ok (.ifCond .lt off, 3)) {tgt : Nat} (ht : (pc : Int) + off = (tgt : Int)) (hi : i < 2 ^ 31) (kf : W p l e R s m args below meth c H locs cells slots Q (F0 m (pc + 3) ls rest)) : W p l e R s m args below meth c H locs cells slots Q (F0 m pc ls (.int (nI i) :: rest)) :=
  lv_if_lt hx hb hdg ht (fun h => absurd h (nI_pos hi)) (fun _ => kf)
theorem eg_iadd (hx : p.tables.exec = Jvm.exec) (hb : c.code = cc) {i j : Nat} (hdg : decode cc pc = .ok (.iadd, 1)) (kk : W p l e R s m args below meth c H locs cells slots Q (F0 m (pc + 1) ls (.int (nI (i + j)) :: rest))) : W p l e R s m args below meth c H locs cells slots Q (F0 m pc ls (.int (nI j) :: .int (nI i) :: rest)) :=
  lv_iadd hx hb hdg (by rw [nI_add]; exact kk)
theorem eg_isub (hx : p.tables.exec = Jvm.exec) (hb : c.code = cc) {i j : Nat} (hdg : decode cc pc = .ok (.isub, 1)) (h : j ≤ i) (kk : W p l e R s m args below meth c H locs cells slots Q (F0 m (pc + 1) ls (.int (nI (i - j)) :: rest))) : W p l e R s m args below meth c H locs cells slots Q (F0 m pc ls (.int (nI j) :: .int (nI i) :: rest)) :=
  lv_isub hx hb hdg (by rw [pk_sub h]; exact kk)
/-- a call of a reader, by its object -/
theorem eg_callV {y : MethodName} {bytes : ByteArray} {maxL nL n index : Nat} {ret : Option FieldType} {ws Ts : List Cond} {rm : Room} {own C : String} {b : Addr} {As : List Value} {v : Option Value}
    (hx : p.tables.exec = Jvm.exec) (hb : c.code = cc) (hml : c.maxLocals = nL) (hown : s.vm.findClass own = some m.cls) (hts : ∀ w ∈ Ts, w.before args s = true) (hK : va_K D vwCl tys s) (hP : va_P D vwCl w H)
    (hM : eg_MR D tys l y ws rm (.ref b :: As) w v) (cw : CallW R s args own C index y bytes maxL ret ws rm 0 0 n) (hrc : ∃ cell : Cell, H[b]? = some cell ∧ cell.vm.isStatics = false ∧ s.vm.findClass C = some cell.cls)
    (hn : As.length = n) (hsize : ls.size = nL) (hst : st0 = As.reverse ++ .ref b :: rest) (hroom : (rest.map fun v => v.category).sum ≤ 8) (hdg : decode cc pc = .ok (.invokevirtual index, 3)) (hf : cells ≤ R.cells ∧ slots ≤ R.slots)
    (kk : W p l e R s m args below meth c H locs cells slots Q (F0 m (pc + 3) ls (v.toList ++ rest))) : W p l e R s m args below meth c H locs cells slots Q (F0 m pc ls st0) := by
  have hr := W.runV (g := F0 m pc ls st0) (H := H) (locs := locs) (cells := cells) (slots := slots) (e := e) (below := below) (meth := meth) (rest := rest) ⟨hx, hb, hml, hown, hts⟩ hM cw ⟨fun a U g mk q => by obtain ⟨q0, qP, qK⟩ := q; exact ⟨q0, qP, va_K.moved (u := U) (U := U.calling g mk a) (Vm.Alike.refl U.vm) qK⟩, hrc, fun U hU hW => ⟨rfl, by rw [hU]; exact hP, va_K.moved hW.alike hK⟩⟩ rfl hn hsize hst (lv_room hroom) hdg ⟨hf.1, hf.2⟩
  intro T hT X
  obtain ⟨v', st₀, t, T', L, h0, X', hL, e1, ⟨hv, hh⟩, st⟩ := hr T hT X
  cases hv
  obtain ⟨t2, a1, b1⟩ := kk T' (by rw [e1, hh, h0]) (Stand.forget X' (fun q h => (hL q h).elim))
  exact ⟨t2, st t2 a1, b1⟩
/-- a static call of a reader that needs no world -/
theorem eg_callS {y : MethodName} {bytes : ByteArray} {maxL nL n index : Nat} {ret : Option FieldType} {ws Ts : List Cond} {rm : Room} {own : String} {As : List Value} {v : Option Value}
    (hx : p.tables.exec = Jvm.exec) (hb : c.code = cc) (hml : c.maxLocals = nL) (hown : s.vm.findClass own = some m.cls) (hts : ∀ w ∈ Ts, w.before args s = true) (hK : va_K D vwCl tys s)
    (hM : eg_MR D tys l y ws rm As [] v) (cw : CallB R s args own index y bytes maxL ret ws rm 0 0 n ∧ (Cond.static y).before args s = true)
    (hn : As.length = n) (hsize : ls.size = nL) (hst : st0 = As.reverse ++ rest) (hroom : (rest.map fun v => v.category).sum ≤ 8) (hdg : decode cc pc = .ok (.invokestatic index, 3)) (hf : cells ≤ R.cells ∧ slots ≤ R.slots)
    (kk : W p l e R s m args below meth c H locs cells slots Q (F0 m (pc + 3) ls (v.toList ++ rest))) : W p l e R s m args below meth c H locs cells slots Q (F0 m pc ls st0) := by
  have hr := W.runS (g := F0 m pc ls st0) (H := H) (locs := locs) (cells := cells) (slots := slots) (e := e) (below := below) (meth := meth) (rest := rest) ⟨hx, hb, hml, hown, hts⟩ hM cw ⟨fun a U g mk q => by obtain ⟨q0, qP, qK⟩ := q; exact ⟨q0, qP, va_K.moved (u := U) (U := U.calling g mk a) (Vm.Alike.refl U.vm) qK⟩, fun U hU hW => ⟨rfl, fun k q h => by simp at h, va_K.moved hW.alike hK⟩⟩ rfl hn hsize hst (lv_room hroom) hdg ⟨hf.1, hf.2⟩
  intro T hT X
  obtain ⟨v', st₀, t, T', L, h0, X', hL, e1, ⟨hv, hh⟩, st⟩ := hr T hT X
  cases hv
  obtain ⟨t2, a1, b1⟩ := kk T' (by rw [e1, hh, h0]) (Stand.forget X' (fun q h => (hL q h).elim))
  exact ⟨t2, st t2 a1, b1⟩
end EGR
section EGJ
/-- behind a call on some of the cells: the others, and the callee's -/
theorem eg_join {D : va_G} {A : Nat → Prop} {w wc wr w1 : va_W} {H H1 : Heap} (hP : va_P D vwCl w H) (hD : va_D A w) (isC isR : List Nat) (hC : isC.map (fun i => w[i]?) = wc.map some) (hR : isR.map (fun i => w[i]?) = wr.map some) (hn : va_nd (isR ++ isC) = true)
    (hk : ∀ q : Nat, q < H.size → ¬ eg_A wc q → H1[q]? = H[q]?) (hw1 : w1.map Prod.fst = wc.map Prod.fst) (hP1 : va_P D vwCl w1 H1) : va_P D vwCl (wr ++ w1) H1 ∧ va_D A (wr ++ w1) := by
  have hS : (isR ++ isC).map (fun i => w[i]?) = (wr ++ wc).map some := by rw [List.map_append, List.map_append, hR, hC]
  have hD' := hD.sub _ hn hS
  refine ⟨va_P.app (fun k q hq => ?_) hP1, eg_D_same hD' (by rw [List.map_append, List.map_append, hw1])⟩
  have h1 : (isR.map (fun i => w[i]?))[k]? = some (some q) := by rw [hR, List.getElem?_map, hq]; rfl
  rw [List.getElem?_map] at h1
  cases hi : isR[k]? with
  | none => rw [hi] at h1; cases h1
  | some i =>
    rw [hi] at h1
    have h2 : w[i]? = some q := Option.some.inj h1
    refine (hP i q h2).kept (hk q.1 (hP i q h2).lt (fun h => ?_))
    obtain ⟨e9, he, h3⟩ := List.mem_map.mp h
    obtain ⟨j, hj⟩ := List.getElem?_of_mem he
    have hkl : k < wr.length := (List.getElem?_eq_some_iff.mp hq).1
    have g1 : (wr ++ wc)[k]? = some q := by rw [List.getElem?_append_left hkl]; exact hq
    have g2 : (wr ++ wc)[wr.length + j]? = some e9 := by rw [List.getElem?_append_right (by omega), Nat.add_sub_cancel_left]; exact hj
    have := hD'.1 k (wr.length + j) q e9 g1 g2 h3.symm
    omega
theorem eg_cut {D : va_G} {w wc : va_W} {H : Heap} (hP : va_P D vwCl w H) (isC : List Nat) (hC : isC.map (fun i => w[i]?) = wc.map some) : va_P D vwCl wc H := by
  intro k q hq
  have h1 : (isC.map (fun i => w[i]?))[k]? = some (some q) := by rw [hC, List.getElem?_map, hq]; rfl
  rw [List.getElem?_map] at h1
  cases hi : isC[k]? with
  | none => rw [hi] at h1; cases h1
  | some i =>
    rw [hi] at h1
    exact hP i q (Option.some.inj h1)
theorem eg_nd_r : ∀ (a b : List Nat), va_nd (a ++ b) = true → va_nd b = true
  | [], _, h => h
  | x :: a, b, h => eg_nd_r a b (by
      have h' : va_nd (x :: (a ++ b)) = true := h
      simp only [va_nd, Bool.and_eq_true] at h'
      exact h'.2)
end EGJ
section EGC
variable {p : Program} {l : Launch} {e : Env} {R : Room} {s : State} {m : MethodId} {args : Array Value} {below : List Frame} {meth : Method} {c : Code} {H : Heap} {locs : List Loc} {cells slots : Nat} {Q : State → Prop}
variable {cc : ByteArray} {pc : Nat} {ls : Array Slot} {rest st0 : List Value} {D : va_G} {tys : List (ClassId × FieldType)} {w w0 wc wr : va_W} {A : Nat → Prop} {H0 : Heap}
variable {y : MethodName} {bytes : ByteArray} {maxL nL n index mc ms : Nat} {ret : Option FieldType} {ws Ts : List Cond} {rm : Room} {own C : String} {b : Addr} {As : List Value} {Rq : Option Value → va_W → Prop} {Rx : va_W → Prop} {E : String}
/-- a call of a writer on the whole world, by its object -/
theorem eg_callWV (hx : p.tables.exec = Jvm.exec) (hb : c.code = cc) (hml : c.maxLocals = nL) (hown : s.vm.findClass own = some m.cls) (hts : ∀ w ∈ Ts, w.before args s = true) (hK : va_K D vwCl tys s) (hP : va_P D vwCl w H) (hD : va_D A w0) (hw : w.map Prod.fst = w0.map Prod.fst) (hS : va_S A H0 H locs)
    (hM : eg_MW D tys l y ws rm mc ms (.ref b :: As) w Rq) (cw : CallW R s args own C index y bytes maxL ret ws rm mc ms n) (hrc : ∃ cell : Cell, H[b]? = some cell ∧ cell.vm.isStatics = false ∧ s.vm.findClass C = some cell.cls)
    (hn : As.length = n) (hsize : ls.size = nL) (hst : st0 = As.reverse ++ .ref b :: rest) (hroom : (rest.map fun v => v.category).sum ≤ 8) (hdg : decode cc pc = .ok (.invokevirtual index, 3)) (hf : cells + mc ≤ R.cells ∧ slots + ms ≤ R.slots)
    (kk : ∀ (v : Option Value) (w1 : va_W) (H1 : Heap) (locs1 : List Loc), Rq v w1 → w1.map Prod.fst = w0.map Prod.fst → va_P D vwCl w1 H1 → va_S A H0 H1 locs1 → W p l e R s m args below meth c H1 locs1 (cells + mc) (slots + ms) Q (F0 m (pc + 3) ls (v.toList ++ rest))) : W p l e R s m args below meth c H locs cells slots Q (F0 m pc ls st0) := by
  have hD2 := eg_D_same hD hw
  have hr := W.runV (g := F0 m pc ls st0) (H := H) (locs := locs) (cells := cells) (slots := slots) (e := e) (below := below) (meth := meth) (rest := rest) ⟨hx, hb, hml, hown, hts⟩ hM cw ⟨fun a U g mk q => by obtain ⟨q0, qP, qK, qD⟩ := q; exact ⟨q0, qP, va_K.moved (u := U) (U := U.calling g mk a) (Vm.Alike.refl U.vm) qK, qD⟩, hrc, fun U hU hW => ⟨rfl, by rw [hU]; exact hP, va_K.moved hW.alike hK, hD2.weaken (fun _ _ _ _ => trivial)⟩⟩ rfl hn hsize hst (lv_room hroom) hdg hf
  intro T hT X
  obtain ⟨v', st₀, t, T', L, h0, X', hL, e1, ⟨v, w1, hv, hR, hw1, hP1, hF⟩, st⟩ := hr T hT X
  cases hv
  obtain ⟨-, -, k3⟩ := vx_keep h0 e1 hS (fun q _ h => eg_D_in hD2 h) (fun q h => eg_D_in hD2 h) hL hF
  obtain ⟨t2, a1, b1⟩ := kk v' w1 T'.heap (locs ++ L) hR (hw1.trans hw) (by rw [e1]; exact hP1) k3 T' rfl X'
  exact ⟨t2, st t2 a1, b1⟩
/-- a call of a writer on some of the cells, by its object -/
theorem eg_callWVc (hx : p.tables.exec = Jvm.exec) (hb : c.code = cc) (hml : c.maxLocals = nL) (hown : s.vm.findClass own = some m.cls) (hts : ∀ w ∈ Ts, w.before args s = true) (hK : va_K D vwCl tys s) (hP : va_P D vwCl w H) (hD : va_D A w) (hS : va_S A H0 H locs) (isC isR : List Nat) (hC : isC.map (fun i => w[i]?) = wc.map some) (hR : isR.map (fun i => w[i]?) = wr.map some) (hnd : va_nd (isR ++ isC) = true)
    (hM : eg_MW D tys l y ws rm mc ms (.ref b :: As) wc Rq) (cw : CallW R s args own C index y bytes maxL ret ws rm mc ms n) (hrc : ∃ cell : Cell, H[b]? = some cell ∧ cell.vm.isStatics = false ∧ s.vm.findClass C = some cell.cls)
    (hn : As.length = n) (hsize : ls.size = nL) (hst : st0 = As.reverse ++ .ref b :: rest) (hroom : (rest.map fun v => v.category).sum ≤ 8) (hdg : decode cc pc = .ok (.invokevirtual index, 3)) (hf : cells + mc ≤ R.cells ∧ slots + ms ≤ R.slots)
    (kk : ∀ (v : Option Value) (w1 : va_W) (H1 : Heap) (locs1 : List Loc), Rq v w1 → w1.map Prod.fst = wc.map Prod.fst → va_P D vwCl (wr ++ w1) H1 → va_D A (wr ++ w1) → va_S A H0 H1 locs1 → W p l e R s m args below meth c H1 locs1 (cells + mc) (slots + ms) Q (F0 m (pc + 3) ls (v.toList ++ rest))) : W p l e R s m args below meth c H locs cells slots Q (F0 m pc ls st0) := by
  have hD2 : va_D A wc := hD.sub isC (eg_nd_r _ _ hnd) hC
  have hr := W.runV (g := F0 m pc ls st0) (H := H) (locs := locs) (cells := cells) (slots := slots) (e := e) (below := below) (meth := meth) (rest := rest) ⟨hx, hb, hml, hown, hts⟩ hM cw ⟨fun a U g mk q => by obtain ⟨q0, qP, qK, qD⟩ := q; exact ⟨q0, qP, va_K.moved (u := U) (U := U.calling g mk a) (Vm.Alike.refl U.vm) qK, qD⟩, hrc, fun U hU hW => ⟨rfl, by rw [hU]; exact eg_cut hP isC hC, va_K.moved hW.alike hK, hD2.weaken (fun _ _ _ _ => trivial)⟩⟩ rfl hn hsize hst (lv_room hroom) hdg hf
  intro T hT X
  obtain ⟨v', st₀, t, T', L, h0, X', hL, e1, ⟨v, w1, hv, hR2, hw1, hP1, hF⟩, st⟩ := hr T hT X
  cases hv
  obtain ⟨-, k2, k3⟩ := vx_keep h0 e1 hS (fun q _ h => eg_D_in hD2 h) (fun q h => eg_D_in hD2 h) hL hF
  obtain ⟨j1, j2⟩ := eg_join hP hD isC isR hC hR hnd k2 hw1 (by rw [e1]; exact hP1)
  obtain ⟨t2, a1, b1⟩ := kk v' w1 T'.heap (locs ++ L) hR2 hw1 j1 j2 k3 T' rfl X'
  exact ⟨t2, st t2 a1, b1⟩
/-- a call that throws, by its object -/
theorem eg_callX (hx : p.tables.exec = Jvm.exec) (hb : c.code = cc) (hml : c.maxLocals = nL) (hown : s.vm.findClass own = some m.cls) (hts : ∀ w ∈ Ts, w.before args s = true) (hK : va_K D vwCl tys s) (hP : va_P D vwCl w H) (hD : va_D A w) (hS : va_S A s.heap H locs) (hT9 : eg_T A s s.heap) (isC isR : List Nat) (hC : isC.map (fun i => w[i]?) = wc.map some) (hR : isR.map (fun i => w[i]?) = wr.map some) (hnd : va_nd (isR ++ isC) = true)
    (hM : eg_MX D tys l y ws rm (.ref b :: As) wc E Rx) (cw : CallW R s args own C index y bytes maxL ret ws rm 1 6 n) (hrc : ∃ cell : Cell, H[b]? = some cell ∧ cell.vm.isStatics = false ∧ s.vm.findClass C = some cell.cls)
    (hn : As.length = n) (hsize : ls.size = nL) (hst : st0 = As.reverse ++ .ref b :: rest) (hroom : (rest.map fun v => v.category).sum ≤ 8) (hdg : decode cc pc = .ok (.invokevirtual index, 3)) (hf : cells + 1 ≤ R.cells ∧ slots + 6 ≤ R.slots)
    (kx : ∀ (w1 : va_W) (H1 : Heap) (locs1 : List Loc) (q9 : Addr) (ce : Cell), Rx w1 → w1.map Prod.fst = wc.map Prod.fst → va_P D vwCl (wr ++ w1) H1 → va_D A (wr ++ w1) → va_S A s.heap H1 locs1 → H1[q9]? = some ce → ce.vm = .none → s.vm.findClass E = some ce.cls → vx_W p l e R s m args below meth c H1 locs1 (cells + 1) (slots + 6) Q (F0 m pc ls rest) q9) : W p l e R s m args below meth c H locs cells slots Q (F0 m pc ls st0) := by
  have hD2 : va_D A wc := hD.sub isC (eg_nd_r _ _ hnd) hC
  have hr := vx_runV (g := F0 m pc ls st0) (H := H) (locs := locs) (cells := cells) (slots := slots) (e := e) (below := below) (meth := meth) (rest := rest) ⟨hx, hb, hml, hown, hts⟩ hM cw ⟨fun a U g mk q => by obtain ⟨q0, qP, qK, qD, qT⟩ := q; exact ⟨q0, qP, va_K.moved (u := U) (U := U.calling g mk a) (Vm.Alike.refl U.vm) qK, qD, qT.calling⟩, hrc, fun U hU hW => ⟨rfl, by rw [hU]; exact eg_cut hP isC hC, va_K.moved hW.alike hK, hD2.weaken (fun _ _ _ _ => trivial), hT9.at hS (fun q h => eg_D_in hD2 h) hU hW⟩⟩ rfl hn hsize hst (lv_room hroom) hdg hf
  intro T hT X
  rcases hr T hT X with ⟨v', st₀, t, T', L, h0, X', hL, e1, e2, hq, st⟩ | ⟨q9, st₀, t, T', L, E', ce, h0, X', hL, e1, e2, ⟨rfl, w1, hRx, hw1, hP1, hF⟩, hce, hcv, hcl, st⟩
  · exact hq.elim
  · obtain ⟨-, k2, k3⟩ := vx_keep h0 e1 hS (fun q _ h => eg_D_in hD2 h) (fun q h => eg_D_in hD2 h) hL hF
    obtain ⟨j1, j2⟩ := eg_join hP hD isC isR hC hR hnd k2 hw1 (by rw [e1]; exact hP1)
    obtain ⟨t2, a1, b1⟩ := kx w1 T'.heap (locs ++ L) q9 ce hRx hw1 j1 j2 k3 (by rw [e1]; exact hce) hcv hcl T' rfl X'
    exact ⟨t2, st.trans a1, b1⟩
/-- .. and the throw goes on to the caller -/
theorem eg_callXout {Rx' : va_W → Prop} (hx : p.tables.exec = Jvm.exec) (hb : c.code = cc) (hml : c.maxLocals = nL) (hown : s.vm.findClass own = some m.cls) (hts : ∀ w ∈ Ts, w.before args s = true) (hK : va_K D vwCl tys s) (hP : va_P D vwCl w H) (hD : va_D (eg_A w0) w0) (hw : w.map Prod.fst = w0.map Prod.fst) (hS : va_S (eg_A w0) s.heap H locs) (hT9 : eg_T (eg_A w0) s s.heap) (is : List Nat) (hC : is.map (fun i => w[i]?) = w.map some) (hnd : va_nd is = true)
    (hM : eg_MX D tys l y ws rm (.ref b :: As) w E Rx) (cw : CallW R s args own C index y bytes maxL ret ws rm 1 6 n) (hrc : ∃ cell : Cell, H[b]? = some cell ∧ cell.vm.isStatics = false ∧ s.vm.findClass C = some cell.cls)
    (hn : As.length = n) (hsize : ls.size = nL) (hst : st0 = As.reverse ++ .ref b :: rest) (hroom : (rest.map fun v => v.category).sum ≤ 8) (hdg : decode cc pc = .ok (.invokevirtual index, 3)) (hf : 0 + 1 ≤ R.cells ∧ 0 + 6 ≤ R.slots)
    (hout : ∀ x ∈ c.exceptionTable.toList, False) (hlocks : meth.locks = false) (hRx : ∀ w1, Rx w1 → Rx' w1) : W p l e R s m args below meth c H locs 0 0 (vx_MQ below (fun _ _ _ _ => False) (eg_XC D w0 E Rx') args s 1 6 (eg_A w0)) (F0 m pc ls st0) :=
  eg_callX (wr := []) hx hb hml hown hts hK hP (eg_D_same hD hw) hS hT9 is [] hC rfl hnd hM cw hrc hn hsize hst hroom hdg hf (fun w1 H1 locs1 q9 ce h1 h2 h3 _ h5 h6 h7 h8 =>
    vx_out (fun x hx => (hout x hx).elim) hlocks h6 h7 h8 (fun t ht hA => ⟨rfl, w1, hRx w1 h1, h2.trans hw, by rw [ht]; exact h3, h5.F ht⟩) h5.2.2 (Nat.le_refl _) (Nat.le_refl _))
/-- 'throw new E("text")' in a thrower's body -/
theorem eg_throw {cls text : String} {ik is ic : Nat} {Rx' : va_W → Prop} (hx : p.tables.exec = Jvm.exec) (hb : c.code = cc) (hl : l.stackTraces = false) (hown : s.vm.findClass own = some m.cls) (hcls : Bundle.fit cls = true)
    (hk : (Cond.classLink own ik cls).before args s = true) (hini : (Cond.initialized cls).before args s = true) (hstr : ∃ sa, vk_R own is text sa s) (hat : ∀ w ∈ vx_atS own ic cls ["java/lang/RuntimeException", "java/lang/Exception"], w.before args s = true)
    (hgood : ∀ w ∈ Cond.classLink own ik cls :: Cond.initialized cls :: vx_atS own ic cls ["java/lang/RuntimeException", "java/lang/Exception"], vx_ot w = true)
    (hP : va_P D vwCl w H) (hw : w.map Prod.fst = w0.map Prod.fst) (hS : va_S (eg_A w0) s.heap H locs) (hT9 : eg_T (eg_A w0) s s.heap) (hsize : ls.size = c.maxLocals)
    (d0 : decode cc pc = .ok (.new ik, 3)) (d3 : decode cc (pc + 3) = .ok (.dup, 1)) (d4 : decode cc (pc + 4) = .ok (.ldc is, 2)) (d6 : decode cc (pc + 6) = .ok (.invokespecial ic, 3)) (d9 : decode cc (pc + 9) = .ok (.athrow, 1))
    (hout : ∀ x ∈ c.exceptionTable.toList, False) (hRframes : 5 < R.frames) (hRlocals : 82 ≤ R.locals) (hRcells : 0 + 1 ≤ R.cells) (hRslots : 0 + 6 ≤ R.slots) (hlocks : meth.locks = false) (hRx : Rx' w) :
    W p l e R s m args below meth c H locs 0 0 (vx_MQ below (fun _ _ _ _ => False) (eg_XC D w0 cls Rx') args s 1 6 (eg_A w0)) (F0 m pc ls []) := by
  obtain ⟨sa, hstr⟩ := hstr
  refine vx_throwS hx hb hl hown hcls (names := ["java/lang/RuntimeException", "java/lang/Exception"]) (by decide +kernel) hk hini hstr hat hgood hT9.1.1.1 hT9.1.1.2 hS hsize d0 d3 d4 d6 d9 (fun x hx => (hout x hx).elim) hRframes hRlocals hRcells hRslots hlocks (fun t hA hz hq => ⟨rfl, w, hRx, hw, hP.kept (fun k q hk => hq q.1 (hP k q hk).lt), Nat.le_trans hS.1 hz, fun q h1 h2 => (hq q (Nat.lt_of_lt_of_le h1 hS.1)).trans (hS.2.1 q h1 h2)⟩) hS.2.2 (Nat.le_refl _) (Nat.le_refl _)
end EGC
end
section
-- BITS of a long, and counts of them
def bi (x : Int64) (i : Nat) : Bool := x.toBitVec.getLsbD i
def ol (i : Nat) : Int64 := Int64.ofBitVec (BitVec.twoPow 64 i)
theorem bi_big {x : Int64} {i : Nat} (h : 64 ≤ i) : bi x i = false := BitVec.getLsbD_of_ge _ _ h
theorem bi_lt {x : Int64} {i : Nat} (h : bi x i = true) : i < 64 := by
  rcases Nat.lt_or_ge i 64 with q | q
  · exact q
  · rw [bi_big q] at h; cases h
theorem bi_ext {x y : Int64} (h : ∀ i, i < 64 → bi x i = bi y i) : x = y := Int64.toBitVec_inj.mp (BitVec.eq_of_getLsbD_eq (fun i hi => h i hi))
theorem bi_or (x y : Int64) (i : Nat) : bi (x ||| y) i = (bi x i || bi y i) := by simp [bi]
theorem bi_and (x y : Int64) (i : Nat) : bi (x &&& y) i = (bi x i && bi y i) := by simp [bi]
theorem bi_m1 (i : Nat) : bi (-1) i = decide (i < 64) := by
  show (-1 : Int64).toBitVec.getLsbD i = _
  rw [show (-1 : Int64).toBitVec = BitVec.allOnes 64 by decide +kernel, BitVec.getLsbD_allOnes]
theorem bi_not (x : Int64) (i : Nat) : bi (x ^^^ (-1)) i = (decide (i < 64) && !bi x i) := by
  have h : bi (x ^^^ (-1)) i = (bi x i ^^ bi (-1) i) := by
    show (x ^^^ (-1)).toBitVec.getLsbD i = _
    rw [Int64.toBitVec_xor, BitVec.getLsbD_xor]; rfl
  rw [h, bi_m1]
  by_cases q : i < 64
  · simp [q]
  · rw [bi_big (Nat.le_of_not_lt q)]; simp [q]
theorem bi_0 (i : Nat) : bi 0 i = false := by simp [bi]
theorem bi_ol (i j : Nat) : bi (ol i) j = (decide (i < 64) && decide (i = j)) := by
  show (Int64.ofBitVec (BitVec.twoPow 64 i)).toBitVec.getLsbD j = _
  rw [Int64.toBitVec_ofBitVec, BitVec.getLsbD_twoPow]
theorem bi_ol1 {i j : Nat} (hi : i < 64) : bi (ol i) j = decide (i = j) := by rw [bi_ol]; simp [hi]
theorem ol_shl : ∀ i, i < 64 → (1 : Int64) <<< ((nI i).toInt64 &&& 63) = ol i := by decide +kernel
theorem has_0 {x : Int64} {i : Nat} (hi : i < 64) : x &&& ol i = 0 ↔ bi x i = false := by
  constructor
  · intro h
    have h1 : bi (x &&& ol i) i = bi 0 i := by rw [h]
    rw [bi_and, bi_ol1 hi, bi_0] at h1
    simpa using h1
  · intro h
    refine bi_ext (fun j _ => ?_)
    rw [bi_and, bi_ol1 hi, bi_0]
    by_cases q : i = j
    · subst q; rw [h]; rfl
    · simp [q]
theorem sh_c : ∀ k, k < 64 → (((nI k).toInt64.toUInt64 &&& Int64.toUInt64 63)).toNat = k := by decide +kernel
/-- the other side's way to ask for a bit -/
theorem has_1 {x : Int64} {i : Nat} (hi : i < 64) : (x.toUInt64 >>> ((nI i).toInt64.toUInt64 &&& Int64.toUInt64 63)).toInt64 &&& 1 = ol 0 &&& (if bi x i then 1 else 0) := by
  refine bi_ext (fun j hj => ?_)
  have e1 : bi 1 j = decide (0 = j) := by
    have : (1 : Int64) = ol 0 := by decide +kernel
    rw [this, bi_ol1 (by omega)]
  have e2 : bi ((x.toUInt64 >>> ((nI i).toInt64.toUInt64 &&& Int64.toUInt64 63)).toInt64) j = bi x (i + j) := by
    show ((x.toUInt64 >>> ((nI i).toInt64.toUInt64 &&& Int64.toUInt64 63)).toInt64).toBitVec.getLsbD j = x.toBitVec.getLsbD (i + j)
    have h9 : (((nI i).toInt64.toUInt64 &&& Int64.toUInt64 63).toBitVec % 64).toNat = i := by
      rw [BitVec.toNat_umod]
      have := sh_c i hi
      rw [← UInt64.toNat_toBitVec] at this
      rw [this]
      exact Nat.mod_eq_of_lt hi
    simp only [UInt64.toBitVec_toInt64, UInt64.toBitVec_shiftRight, Int64.toBitVec_toUInt64]
    rw [BitVec.ushiftRight_eq', BitVec.getLsbD_ushiftRight, h9]
  rw [bi_and, bi_and, e1, e2, bi_ol1 (by omega)]
  by_cases q : 0 = j
  · subst q
    simp only [Nat.add_zero, decide_true, Bool.and_true, Bool.true_and]
    cases bi x i
    · exact (bi_0 0).symm
    · have : (1 : Int64) = ol 0 := by decide +kernel
      rw [if_pos rfl, this, bi_ol1 (by omega)]; rfl
  · simp [q]
theorem has_1t {x : Int64} {i : Nat} (hi : i < 64) : ((x.toUInt64 >>> ((nI i).toInt64.toUInt64 &&& Int64.toUInt64 63)).toInt64 &&& 1 = 1) ↔ bi x i = true := by
  rw [has_1 hi]
  cases bi x i
  · exact ⟨fun h => absurd h (by decide +kernel), fun h => by cases h⟩
  · exact ⟨fun _ => rfl, fun _ => by decide +kernel⟩
-- counts
def ct (p : Nat → Bool) : Nat → Nat
  | 0 => 0
  | n + 1 => ct p n + (if p n then 1 else 0)
theorem ct_le (p : Nat → Bool) : ∀ n, ct p n ≤ n
  | 0 => Nat.le_refl 0
  | n + 1 => by
    have := ct_le p n
    show ct p n + (if p n then 1 else 0) ≤ n + 1
    split <;> omega
theorem ct_congr {p q : Nat → Bool} : ∀ {n : Nat}, (∀ k, k < n → p k = q k) → ct p n = ct q n
  | 0, _ => rfl
  | n + 1, h => by
    show ct p n + (if p n then 1 else 0) = ct q n + (if q n then 1 else 0)
    rw [ct_congr (fun k hk => h k (by omega)), h n (by omega)]
theorem ct_false : ∀ {p : Nat → Bool} (n m : Nat), (∀ k, n ≤ k → p k = false) → ct p (n + m) = ct p n
  | _, _, 0, _ => rfl
  | p, n, m + 1, h => by
    show ct p (n + m) + (if p (n + m) then 1 else 0) = ct p n
    rw [ct_false n m h, h (n + m) (by omega)]
    rfl
theorem ct_to {p : Nat → Bool} {n m : Nat} (hnm : n ≤ m) (h : ∀ k, n ≤ k → p k = false) : ct p m = ct p n := by
  obtain ⟨d, rfl⟩ : ∃ d, m = n + d := ⟨m - n, by omega⟩
  exact ct_false n d h
theorem ct_new {p q : Nat → Bool} : ∀ n, ct (fun k => p k || q k) n = ct p n + ct (fun k => q k && !p k) n
  | 0 => rfl
  | n + 1 => by
    show ct (fun k => p k || q k) n + (if (p n || q n) then 1 else 0) = ct p n + (if p n then 1 else 0) + (ct (fun k => q k && !p k) n + (if (q n && !p n) then 1 else 0))
    rw [ct_new n]
    cases p n <;> cases q n <;> simp <;> omega
theorem ct_split (p : Nat → Bool) (m : Nat) : ∀ n, ct p (m + n) = ct p m + ct (fun k => p (m + k)) n
  | 0 => rfl
  | n + 1 => by
    show ct p (m + n) + (if p (m + n) then 1 else 0) = ct p m + (ct (fun k => p (m + k)) n + (if p (m + n) then 1 else 0))
    rw [ct_split p m n]; omega
/-- how many bits are set -/
def pc64 (x : Int64) : Nat := ct (bi x) 64
end
section
-- THE ORDER OF THE LETTERS: laid one behind the other; the tree's walk; rows that hold a list
def NN : Int32 := -1
def ev (n : Nat) (x : Int32) : Bool := !(decide (x < 0)) && decide (x < nI n)
theorem ev_nI {n i : Nat} (hn : n < 2 ^ 31) (hi : i < n) : ev n (nI i) = true := by
  simp only [ev, Bool.and_eq_true, Bool.not_eq_true', decide_eq_false_iff_not, decide_eq_true_eq]
  exact ⟨nI_pos (by omega), nI_lt hi hn⟩
theorem ev_of {n : Nat} {x : Int32} (hn : n < 2 ^ 31) (h : ev n x = true) : ∃ i, i < n ∧ x = nI i := by
  simp only [ev, Bool.and_eq_true, Bool.not_eq_true', decide_eq_false_iff_not, decide_eq_true_eq] at h
  obtain ⟨j, hj, rfl⟩ := nI_of h.1
  exact ⟨j, (nI_ltI hj hn).mp h.2, rfl⟩
theorem ev_m1 (n : Nat) : ev n (-1) = false := by
  simp [ev]
theorem nI_m1 {i : Nat} (h : i < 2 ^ 31) : ¬ nI i = -1 := by
  intro q
  have h1 := nI_pos h
  rw [q] at h1
  exact h1 (by decide)
theorem nI_in1 {i j : Nat} (hi : i < 2 ^ 31) (hj : j < 2 ^ 31) (h : nI i = nI j) : i = j := (nI_eq hi hj).mp h
/-- laid right behind its letter, or at the beginning -/
def insA (t : Int32) (k : Nat) (L : List Nat) : List Nat := if t = -1 then k :: L else L.flatMap (fun x => if nI x = t then [x, k] else [x])
def lay (P : Nat → Bool) (tg : Nat → Int32) : Nat → List Nat
  | 0 => []
  | k + 1 => if P k then insA (tg k) k (lay P tg k) else lay P tg k
/-- a set of letters that has with each the one at which it hangs -/
def hang (P : Nat → Bool) (tg : Nat → Int32) (n : Nat) : Prop := ∀ k, k < n → P k = true → tg k = -1 ∨ ∃ t, t < k ∧ tg k = nI t ∧ P t = true
theorem hang_le {P : Nat → Bool} {tg : Nat → Int32} {n m : Nat} (h : hang P tg n) (hm : m ≤ n) : hang P tg m := fun k hk => h k (by omega)
theorem insA_mem {t : Int32} {k x : Nat} {L : List Nat} (h : x ∈ insA t k L) : x = k ∨ x ∈ L := by
  unfold insA at h
  split at h
  · exact List.mem_cons.mp h
  · obtain ⟨a, ha, hx⟩ := List.mem_flatMap.mp h
    split at hx
    · rcases List.mem_cons.mp hx with rfl | hx
      · exact Or.inr ha
      · exact Or.inl (List.mem_singleton.mp hx)
    · rw [List.mem_singleton.mp hx]; exact Or.inr ha
theorem insA_old {t : Int32} {k x : Nat} {L : List Nat} (h : x ∈ L) : x ∈ insA t k L := by
  unfold insA
  split
  · exact List.mem_cons_of_mem _ h
  · refine List.mem_flatMap.mpr ⟨x, h, ?_⟩
    split <;> exact List.mem_cons_self
theorem insA_new {t : Int32} {k : Nat} {L : List Nat} (h : t = -1 ∨ ∃ x, x ∈ L ∧ t = nI x) : k ∈ insA t k L := by
  unfold insA
  split
  · exact List.mem_cons_self
  · rename_i q
    rcases h with h | ⟨x, hx, h⟩
    · exact absurd h q
    · refine List.mem_flatMap.mpr ⟨x, hx, ?_⟩
      rw [if_pos h.symm]
      exact List.mem_cons_of_mem _ List.mem_cons_self
theorem lay_mem {P : Nat → Bool} {tg : Nat → Int32} : ∀ {n x : Nat}, x ∈ lay P tg n → x < n ∧ P x = true
  | 0, _, h => by cases h
  | n + 1, x, h => by
    unfold lay at h
    split at h
    · rename_i q
      rcases insA_mem h with rfl | h
      · exact ⟨by omega, q⟩
      · have := lay_mem h; exact ⟨by omega, this.2⟩
    · have := lay_mem h; exact ⟨by omega, this.2⟩
theorem lay_in {P : Nat → Bool} {tg : Nat → Int32} : ∀ {n x : Nat}, hang P tg n → x < n → P x = true → x ∈ lay P tg n
  | 0, _, _, h, _ => absurd h (Nat.not_lt_zero _)
  | n + 1, x, hc, hx, hp => by
    unfold lay
    have hc' := hang_le hc (Nat.le_succ n)
    by_cases q : x = n
    · subst q
      rw [if_pos hp]
      refine insA_new ?_
      rcases hc x (by omega) hp with h | ⟨t, h1, h2, h3⟩
      · exact Or.inl h
      · exact Or.inr ⟨t, lay_in hc' h1 h3, h2⟩
    · have := lay_in hc' (by omega : x < n) hp
      split
      · exact insA_old this
      · exact this
theorem flat_none {t k : Nat} (g : Nat → List Nat) : ∀ {L : List Nat}, (∀ x, x ∈ L → g x = [x]) → L.flatMap g = L
  | [], _ => rfl
  | x :: L, h => by
    rw [List.flatMap_cons, h x List.mem_cons_self, flat_none (t := t) (k := k) g (fun y hy => h y (List.mem_cons_of_mem _ hy))]
    rfl
/-- the two halves of a list about the place of a letter -/
theorem insA_at {t k : Nat} (ht : t < 2 ^ 31) {L1 L2 : List Nat} (h : ∀ x, x ∈ L1 ++ L2 → x < 2 ^ 31 ∧ x ≠ t) : insA (nI t) k (L1 ++ t :: L2) = L1 ++ t :: k :: L2 := by
  unfold insA
  rw [if_neg (nI_m1 ht), List.flatMap_append, List.flatMap_cons, if_pos rfl]
  have e : ∀ x, x ∈ L1 ++ L2 → (if nI x = nI t then [x, k] else [x]) = [x] := fun x hx => if_neg (fun q => (h x hx).2 (nI_in1 (h x hx).1 ht q))
  rw [flat_none (t := t) (k := k) _ (fun x hx => e x (List.mem_append_left _ hx)), flat_none (t := t) (k := k) _ (fun x hx => e x (List.mem_append_right _ hx))]
  rfl
theorem nodup_split {t : Nat} {L : List Nat} (h : t ∈ L) (hn : L.Nodup) : ∃ L1 L2, L = L1 ++ t :: L2 ∧ t ∉ L1 ∧ t ∉ L2 := by
  obtain ⟨L1, L2, rfl⟩ := List.append_of_mem h
  rw [List.nodup_append] at hn
  obtain ⟨_, h2, h3⟩ := hn
  exact ⟨L1, L2, rfl, fun q => h3 t q t List.mem_cons_self rfl, (List.nodup_cons.mp h2).1⟩
theorem lay_nodup {P : Nat → Bool} {tg : Nat → Int32} : ∀ {n : Nat}, n ≤ 2 ^ 31 → hang P tg n → (lay P tg n).Nodup
  | 0, _, _ => List.nodup_nil
  | n + 1, hn, hc => by
    have ih := lay_nodup (by omega : n ≤ 2 ^ 31) (hang_le hc (Nat.le_succ n))
    unfold lay
    split
    · rename_i q
      have hnn : n ∉ lay P tg n := fun h => by have := (lay_mem h).1; omega
      rcases hc n (by omega) q with h | ⟨t, h1, h2, h3⟩
      · unfold insA
        rw [if_pos h]
        exact List.nodup_cons.mpr ⟨hnn, ih⟩
      · obtain ⟨L1, L2, e, g1, g2⟩ := nodup_split (lay_in (hang_le hc (Nat.le_succ n)) h1 h3) ih
        have bi : ∀ x, x ∈ L1 ++ L2 → x < 2 ^ 31 ∧ x ≠ t := by
          intro x hx
          have hm : x ∈ lay P tg n := by
            rw [e]
            rcases List.mem_append.mp hx with h | h
            · exact List.mem_append_left _ h
            · exact List.mem_append_right _ (List.mem_cons_of_mem _ h)
          refine ⟨by have := (lay_mem hm).1; omega, fun q => ?_⟩
          subst q
          rcases List.mem_append.mp hx with h | h
          · exact g1 h
          · exact g2 h
        rw [h2, e, insA_at (by omega) bi]
        rw [e] at ih hnn
        have hp : (L1 ++ t :: n :: L2).Perm (n :: (L1 ++ t :: L2)) := by
          have := (List.perm_middle (a := n) (l₁ := L1 ++ [t]) (l₂ := L2))
          simpa using this
        exact hp.nodup_iff.mpr (List.nodup_cons.mpr ⟨hnn, ih⟩)
    · exact ih
/-- fewer letters, laid alone, stand as they do among all -/
theorem lay_filter {P Q : Nat → Bool} {tg : Nat → Int32} : ∀ {n : Nat}, n ≤ 2 ^ 31 → hang Q tg n → (∀ k, k < n → Q k = true → P k = true) → lay Q tg n = (lay P tg n).filter Q
  | 0, _, _, _ => rfl
  | n + 1, hn, hc, hs => by
    have ih := lay_filter (P := P) (by omega : n ≤ 2 ^ 31) (hang_le hc (Nat.le_succ n)) (fun k hk => hs k (by omega))
    unfold lay
    by_cases q : Q n = true
    · rw [if_pos q, if_pos (hs n (by omega) q), ih]
      rcases hc n (by omega) q with h | ⟨t, h1, h2, h3⟩
      · unfold insA
        rw [if_pos h, if_pos h, List.filter_cons_of_pos q]
      · unfold insA
        rw [h2, if_neg (nI_m1 (by omega)), if_neg (nI_m1 (by omega))]
        have key : ∀ L : List Nat, (∀ x, x ∈ L → x < n) → (L.filter Q).flatMap (fun x => if nI x = nI t then [x, n] else [x]) = (L.flatMap (fun x => if nI x = nI t then [x, n] else [x])).filter Q := by
          intro L
          induction L with
          | nil => intro _; rfl
          | cons x L ihL =>
            intro hL
            have ihL := ihL (fun y hy => hL y (List.mem_cons_of_mem _ hy))
            have hxn := hL x List.mem_cons_self
            rw [List.flatMap_cons, List.filter_append, ← ihL]
            by_cases qx : Q x = true
            · rw [List.filter_cons_of_pos qx, List.flatMap_cons]
              congr 1
              split
              · rw [List.filter_cons_of_pos qx, List.filter_cons_of_pos q]; rfl
              · rw [List.filter_cons_of_pos qx]; rfl
            · rw [List.filter_cons_of_neg qx]
              have : ¬ nI x = nI t := fun e => qx (by rw [nI_in1 (by omega) (by omega) e]; exact h3)
              rw [if_neg this, List.filter_cons_of_neg qx]
              rfl
        exact key _ (fun x hx => (lay_mem hx).1)
    · rw [if_neg q]
      split
      · rw [ih]
        have key : ∀ L : List Nat, (insA (tg n) n L).filter Q = L.filter Q := by
          intro L
          unfold insA
          split
          · rw [List.filter_cons_of_neg q]
          · induction L with
            | nil => rfl
            | cons x L ihL =>
              rw [List.flatMap_cons, List.filter_append, ihL]
              have : (if nI x = tg n then [x, n] else [x]).filter Q = [x].filter Q := by
                split
                · rw [List.filter_cons, List.filter_cons_of_neg q, List.filter_cons]
                · rfl
              rw [this, ← List.filter_append]
              rfl
        rw [key]
      · exact ih
theorem lay_congr {P Q : Nat → Bool} {tg tg' : Nat → Int32} : ∀ {n : Nat}, (∀ k, k < n → P k = Q k ∧ tg k = tg' k) → lay P tg n = lay Q tg' n
  | 0, _ => rfl
  | n + 1, h => by
    unfold lay
    rw [(h n (by omega)).1, (h n (by omega)).2, lay_congr (fun k hk => h k (by omega))]
/-- a row holds a list from its place 0 on -/
def holds (f : Nat → Int32) (L : List Nat) : Prop := ∀ (j x : Nat), L[j]? = some x → f j = nI x
theorem holds_nil (f : Nat → Int32) : holds f [] := fun j x h => by simp at h
theorem holds_push {f : Nat → Int32} {L : List Nat} {k : Nat} (h : holds f L) : holds (upd f L.length (nI k)) (L ++ [k]) := by
  intro j x hx
  rcases Nat.lt_or_ge j L.length with q | q
  · rw [List.getElem?_append_left q] at hx
    rw [pk_un (by omega)]
    exact h j x hx
  · rw [List.getElem?_append_right q] at hx
    have : j = L.length := by
      rcases Nat.lt_or_ge 0 (j - L.length) with z | z
      · rw [List.getElem?_eq_none (by simp; omega)] at hx; cases hx
      · omega
    subst this
    rw [Nat.sub_self] at hx
    cases hx
    rw [pk_us]
end
section
-- THE TREE of the letters, its walk by a row of waiting ones; the chain; a row into which a letter is put
def Tr (n : Nat) (fh nb : Nat → Int32) : Nat → Int32 → List Nat → Prop
  | 0, x, L => x = -1 ∧ L = []
  | f + 1, x, L => (x = -1 ∧ L = []) ∨ ∃ (e : Nat) (A B : List Nat), x = nI e ∧ e < n ∧ L = e :: (A ++ B) ∧ Tr n fh nb f (fh e) A ∧ Tr n fh nb f (nb e) B
theorem Tr_succ {n : Nat} {fh nb : Nat → Int32} : ∀ (f : Nat) (x : Int32) (L : List Nat), Tr n fh nb f x L → Tr n fh nb (f + 1) x L
  | 0, _, _, h => Or.inl h
  | f + 1, _, _, h => by
    rcases h with h | ⟨e, A, B, h1, h2, h3, h4, h5⟩
    · exact Or.inl h
    · exact Or.inr ⟨e, A, B, h1, h2, h3, Tr_succ f _ _ h4, Tr_succ f _ _ h5⟩
theorem Tr_le {n : Nat} {fh nb : Nat → Int32} {f : Nat} {x : Int32} {L : List Nat} (h : Tr n fh nb f x L) : ∀ d, Tr n fh nb (f + d) x L
  | 0 => h
  | d + 1 => Tr_succ _ _ _ (Tr_le h d)
/-- new events, and rows that stay at the old ones -/
theorem Tr_keep {n n' : Nat} {fh nb fh' nb' : Nat → Int32} (hn : n ≤ n') (h : ∀ e, e < n → fh' e = fh e ∧ nb' e = nb e) : ∀ (f : Nat) (x : Int32) (L : List Nat), Tr n fh nb f x L → Tr n' fh' nb' f x L
  | 0, _, _, q => q
  | f + 1, _, _, q => by
    rcases q with q | ⟨e, A, B, h1, h2, h3, h4, h5⟩
    · exact Or.inl q
    · refine Or.inr ⟨e, A, B, h1, by omega, h3, ?_, ?_⟩
      · rw [(h e h2).1]; exact Tr_keep hn h f _ _ h4
      · rw [(h e h2).2]; exact Tr_keep hn h f _ _ h5
theorem insA_flat {t k : Nat} (ht : t < 2 ^ 31) (L : List Nat) : insA (nI t) k L = L.flatMap (fun x => if nI x = nI t then [x, k] else [x]) := by
  unfold insA
  rw [if_neg (nI_m1 ht)]
theorem Tr_hang {n t : Nat} {fh nb fh' nb' : Nat → Int32} (hn : n < 2 ^ 31) (ht : t < n) (h1 : ∀ e, e < n → e ≠ t → fh' e = fh e) (h2 : ∀ e, e < n → nb' e = nb e) (h3 : fh' t = nI n) (h4 : fh' n = -1) (h5 : nb' n = fh t) :
    ∀ (f : Nat) (x : Int32) (L : List Nat), Tr n fh nb f x L → Tr (n + 1) fh' nb' (f + f) x (insA (nI t) n L) := by
  intro f
  induction f with
  | zero =>
    intro x L h
    obtain ⟨h, rfl⟩ := h
    exact ⟨h, by rw [insA_flat (by omega)]; rfl⟩
  | succ f ih =>
    intro x L h
    rcases h with ⟨h, rfl⟩ | ⟨e, A, B, g1, g2, g3, g4, g5⟩
    · have : Tr (n + 1) fh' nb' 0 x (insA (nI t) n []) := ⟨h, by rw [insA_flat (by omega)]; rfl⟩
      have := Tr_le this (f + 1 + (f + 1))
      rwa [Nat.zero_add] at this
    · have i4 := ih _ _ g4
      have i5 := ih _ _ g5
      rw [insA_flat (by omega)] at i4 i5 ⊢
      rw [g3, List.flatMap_cons, List.flatMap_append]
      rw [show f + 1 + (f + 1) = (f + f + 1) + 1 by omega]
      by_cases q : e = t
      · subst q
        rw [if_pos rfl]
        refine Or.inr ⟨e, n :: ([] ++ A.flatMap (fun x => if nI x = nI e then [x, n] else [x])), B.flatMap (fun x => if nI x = nI e then [x, n] else [x]), g1, by omega, by simp, ?_, ?_⟩
        · rw [h3]
          exact Or.inr ⟨n, [], A.flatMap (fun x => if nI x = nI e then [x, n] else [x]), rfl, by omega, rfl, (by
            rw [h4]
            have : Tr (n + 1) fh' nb' 0 (-1) [] := ⟨rfl, rfl⟩
            have := Tr_le this (f + f)
            rwa [Nat.zero_add] at this), by rw [h5]; exact i4⟩
        · rw [h2 e g2]
          exact Tr_succ _ _ _ i5
      · rw [if_neg (fun z => q (nI_in1 (by omega) (by omega) z))]
        refine Or.inr ⟨e, A.flatMap (fun x => if nI x = nI t then [x, n] else [x]), B.flatMap (fun x => if nI x = nI t then [x, n] else [x]), g1, by omega, by simp, ?_, ?_⟩
        · rw [h1 e g2 q]; exact Tr_succ _ _ _ i4
        · rw [h2 e g2]; exact Tr_succ _ _ _ i5
/-- the letters that wait, the next one first; what is still to come of them -/
def St (n : Nat) (fh nb : Nat → Int32) : List Nat → List Nat → Prop
  | [], R => R = []
  | e :: S, R => ∃ (f : Nat) (A R' : List Nat), e < n ∧ Tr n fh nb f (nI e) A ∧ R = A ++ R' ∧ St n fh nb S R'
theorem St_pop {n : Nat} {fh nb : Nat → Int32} {e : Nat} {S R : List Nat} (hn : n ≤ 2 ^ 31) (h : St n fh nb (e :: S) R) : ∃ (f : Nat) (A B R' : List Nat), e < n ∧ R = e :: (A ++ (B ++ R')) ∧ Tr n fh nb f (fh e) A ∧ Tr n fh nb f (nb e) B ∧ St n fh nb S R' := by
  obtain ⟨f, A, R', h1, h2, h3, h4⟩ := h
  cases f with
  | zero => exact absurd h2.1 (nI_m1 (by omega))
  | succ f =>
    rcases h2 with h2 | ⟨e', A', B', g1, g2, g3, g4, g5⟩
    · exact absurd h2.1 (nI_m1 (by omega))
    · have := nI_in1 (by omega) (by omega) g1
      subst this
      exact ⟨f, A', B', R', h1, by rw [h3, g3]; simp, g4, g5, h4⟩
theorem St_none {n : Nat} {fh nb : Nat → Int32} {S R A : List Nat} {f : Nat} {x : Int32} (hn : n < 2 ^ 31) (h : St n fh nb S R) (ht : Tr n fh nb f x A) (hx : ev n x = false) : St n fh nb S (A ++ R) := by
  cases f with
  | zero => rw [ht.2]; exact h
  | succ f =>
    rcases ht with ht | ⟨e, _, _, g1, g2, _⟩
    · rw [ht.2]; exact h
    · rw [g1, ev_nI hn g2] at hx; cases hx
theorem St_push {n : Nat} {fh nb : Nat → Int32} {S R A : List Nat} {f e : Nat} (he : e < n) (h : St n fh nb S R) (ht : Tr n fh nb f (nI e) A) : St n fh nb (e :: S) (A ++ R) := ⟨f, A, R, he, ht, rfl, h⟩
theorem St_len {n : Nat} {fh nb : Nat → Int32} (hn : n ≤ 2 ^ 31) : ∀ (S R : List Nat), St n fh nb S R → S.length ≤ R.length
  | [], _, _ => Nat.zero_le _
  | e :: S, R, h => by
    obtain ⟨f, A, B, R', h1, h2, h3, h4, h5⟩ := St_pop hn h
    have := St_len hn S R' h5
    rw [h2]
    simp only [List.length_cons, List.length_append]
    omega
/-- the row of those that wait -/
def stk (wt : Nat → Int32) : List Nat → Prop
  | [] => True
  | e :: S => wt S.length = nI e ∧ stk wt S
theorem stk_keep {wt : Nat → Int32} {k : Nat} {v : Int32} : ∀ (S : List Nat), S.length ≤ k → stk wt S → stk (upd wt k v) S
  | [], _, _ => trivial
  | e :: S, hk, h => by
    have hk' : S.length + 1 ≤ k := hk
    exact ⟨by rw [pk_un (by omega)]; exact h.1, stk_keep S (by omega) h.2⟩
theorem stk_push {wt : Nat → Int32} {e : Nat} {S : List Nat} (h : stk wt S) : stk (upd wt S.length (nI e)) (e :: S) := ⟨pk_us, stk_keep S (Nat.le_refl _) h⟩
/-- a chain of letters -/
def Ch (bh : Nat → Int32) : Int32 → List Nat → Prop
  | x, [] => x = -1
  | x, e :: L => x = nI e ∧ Ch bh (bh e) L
theorem Ch_keep {bh bh' : Nat → Int32} : ∀ (x : Int32) (L : List Nat), (∀ e, e ∈ L → bh' e = bh e) → Ch bh x L → Ch bh' x L
  | _, [], _, h => h
  | _, e :: L, hk, h => ⟨h.1, by rw [hk e List.mem_cons_self]; exact Ch_keep _ L (fun y hy => hk y (List.mem_cons_of_mem _ hy)) h.2⟩
theorem Ch_hang {t k : Nat} {bh bh' : Nat → Int32} (hk : k < 2 ^ 31) (ht : t < 2 ^ 31) (htk : t ≠ k) (h1 : ∀ e, e ≠ t → e ≠ k → bh' e = bh e) (h2 : bh' t = nI k) (h3 : bh' k = bh t) :
    ∀ (x : Int32) (L : List Nat), L.Nodup → k ∉ L → (∀ e, e ∈ L → e < 2 ^ 31) → Ch bh x L → Ch bh' x (insA (nI t) k L)
  | x, [], _, _, _, h => by rw [insA_flat ht]; exact h
  | x, e :: L, hn, hkL, hl, h => by
    obtain ⟨g1, g2⟩ := List.nodup_cons.mp hn
    have gk : k ∉ L := fun q => hkL (List.mem_cons_of_mem _ q)
    have ek : e ≠ k := fun q => hkL (by rw [q]; exact List.mem_cons_self)
    have ih := fun x => Ch_hang hk ht htk h1 h2 h3 x L g2 gk (fun y hy => hl y (List.mem_cons_of_mem _ hy))
    rw [insA_flat ht, List.flatMap_cons]
    by_cases q : e = t
    · subst q
      rw [if_pos rfl, flat_none (t := e) (k := k) _ (fun y hy => if_neg (fun z => g1 (by rw [← nI_in1 (hl y (List.mem_cons_of_mem _ hy)) ht z]; exact hy)))]
      refine ⟨h.1, ?_⟩
      show Ch bh' (bh' e) (k :: L)
      refine ⟨h2, ?_⟩
      rw [h3]
      exact Ch_keep _ L (fun y hy => h1 y (fun z => g1 (z ▸ hy)) (fun z => gk (z ▸ hy))) h.2
    · rw [if_neg (fun z => q (nI_in1 (hl e List.mem_cons_self) ht z))]
      refine ⟨h.1, ?_⟩
      rw [h1 e q ek]
      have := ih (bh e) h.2
      rw [insA_flat ht] at this
      exact this
/-- a row into which a letter is put -/
theorem holds_ins {f g : Nat → Int32} {k : Nat} {L1 L2 : List Nat} (h : holds f (L1 ++ L2)) (h1 : ∀ i, i < L1.length → g i = f i) (h2 : g L1.length = nI k) (h3 : ∀ i, L1.length < i → i ≤ (L1 ++ L2).length → g i = f (i - 1)) : holds g (L1 ++ k :: L2) := by
  intro j x hx
  rcases Nat.lt_or_ge j L1.length with q | q
  · rw [List.getElem?_append_left q] at hx
    rw [h1 j q]
    exact h j x (by rw [List.getElem?_append_left q]; exact hx)
  · rw [List.getElem?_append_right q] at hx
    rcases Nat.lt_or_ge L1.length j with z | z
    · have e : j - L1.length = (j - 1 - L1.length) + 1 := by omega
      rw [e, List.getElem?_cons_succ] at hx
      have hl : j - 1 - L1.length < L2.length := (List.getElem?_eq_some_iff.mp hx).1
      rw [h3 j z (by simp only [List.length_append]; omega)]
      exact h (j - 1) x (by rw [List.getElem?_append_right (by omega)]; exact hx)
    · have e : j = L1.length := by omega
      subst e
      rw [Nat.sub_self] at hx
      cases hx
      exact h2
theorem insA_front {k : Nat} {L : List Nat} : insA (-1) k L = k :: L := by unfold insA; rw [if_pos rfl]
end
section
-- WHAT A STATE IS: the cells of an EditGraph and of its reference, by what they hold
abbrev tyL (cI cJ : ClassId) : List (ClassId × FieldType) := [(cI, .int), (cJ, .long)]
def wX (q : Nat → Nat) (cI cJ : ClassId) (n : Int32) (mk lt tg : Nat → Int32) (pa an la kn : Nat → Int64) (fb : Int32) (fh nb te wt bh : Nat → Int32) : va_W :=
  [(q 0, .inr (0, [.int n, .ref (q 1), .ref (q 2), .ref (q 3), .ref (q 4), .ref (q 5), .ref (q 6), .ref (q 7), .int fb, .ref (q 8), .ref (q 9), .ref (q 10), .ref (q 11), .ref (q 12)])),
   (q 1, .inl (cI, 60, .inl mk)), (q 2, .inl (cI, 60, .inl lt)), (q 3, .inl (cI, 60, .inl tg)), (q 4, .inl (cJ, 60, .inr (.inl pa))), (q 5, .inl (cJ, 60, .inr (.inl an))), (q 6, .inl (cJ, 60, .inr (.inl la))), (q 7, .inl (cJ, 4, .inr (.inl kn))),
   (q 8, .inl (cI, 60, .inl fh)), (q 9, .inl (cI, 60, .inl nb)), (q 10, .inl (cI, 60, .inl te)), (q 11, .inl (cI, 60, .inl wt)), (q 12, .inl (cI, 60, .inl bh))]
def wM (q : Nat → Nat) (cI cJ : ClassId) (n : Int32) (mk lt tg : Nat → Int32) (pa an kn : Nat → Int64) (row : Nat → Int32) (len thr : Int32) : va_W :=
  [(q 0, .inr (1, [.ref (q 1), .ref (q 2), .ref (q 3), .ref (q 4), .ref (q 5), .int n, .ref (q 6), .ref (q 7), .int len, .int thr])),
   (q 1, .inl (cI, 60, .inl mk)), (q 2, .inl (cI, 60, .inl lt)), (q 3, .inl (cI, 60, .inl tg)), (q 4, .inl (cJ, 60, .inr (.inl pa))), (q 5, .inl (cJ, 60, .inr (.inl an))), (q 6, .inl (cJ, 4, .inr (.inl kn))), (q 7, .inl (cI, 60, .inl row))]
theorem wX_ad {q : Nat → Nat} {cI cJ : ClassId} {n n' fb fb' : Int32} {mk lt tg mk' lt' tg' fh nb te wt bh fh' nb' te' wt' bh' : Nat → Int32} {pa an la kn pa' an' la' kn' : Nat → Int64} : (wX q cI cJ n' mk' lt' tg' pa' an' la' kn' fb' fh' nb' te' wt' bh').map Prod.fst = (wX q cI cJ n mk lt tg pa an la kn fb fh nb te wt bh).map Prod.fst := rfl
theorem wM_ad {q : Nat → Nat} {cI cJ : ClassId} {n n' len len' thr thr' : Int32} {mk lt tg mk' lt' tg' row row' : Nat → Int32} {pa an kn pa' an' kn' : Nat → Int64} : (wM q cI cJ n' mk' lt' tg' pa' an' kn' row' len' thr').map Prod.fst = (wM q cI cJ n mk lt tg pa an kn row len thr).map Prod.fst := rfl
end
section
-- WHAT THE CLASS'S READERS ANSWER, as functions of what the cells hold
def ins (lt : Nat → Int32) (i : Nat) : Bool := !(decide (lt i = -1))
def cl (x : Int32) : Nat := x.toNatClampNeg
theorem cl_nI {i : Nat} (h : i < 2 ^ 31) : cl (nI i) = i := nI_clamp h
theorem eb_1 {b : Bool} (h : b = true) : nI 1 = eb b := by subst h; decide +kernel
theorem eb_z {b : Bool} (h : b = false) : nI 0 = eb b := by subst h; decide +kernel
theorem ins_t {lt : Nat → Int32} {i : Nat} (h : ¬ lt i = -1) : ins lt i = true := by simp [ins, h]
theorem ins_f {lt : Nat → Int32} {i : Nat} (h : lt i = -1) : ins lt i = false := by simp [ins, h]
theorem ins_ne {lt : Nat → Int32} {i : Nat} (h : ins lt i = true) : ¬ lt i = -1 := by simpa [ins] using h
theorem ins_eq {lt : Nat → Int32} {i : Nat} (h : ins lt i = false) : lt i = -1 := by simpa [ins] using h
def hO (pa : Nat → Int64) (v : Int64) : Nat → Int64
  | 0 => 0
  | k + 1 => if bi v k = true then hO pa v k ||| pa k else hO pa v k
def hdX (pa : Nat → Int64) (v : Int64) (n : Nat) : Int64 := v &&& (hO pa v n ^^^ (-1))
def rel (an la : Nat → Int64) (i : Nat) : Int64 := (an i ||| ol i) ||| la i
def cO (an la : Nat → Int64) (v : Int64) : Nat → Int64
  | 0 => 0
  | k + 1 => if bi v k = true ∧ v &&& (rel an la k ^^^ (-1)) = 0 then cO an la v k ||| ol k else cO an la v k
def sI (lt : Nat → Int32) (v : Int64) : Nat → Int64
  | 0 => 0
  | k + 1 => if bi v k = true ∧ ins lt k = true then sI lt v k ||| ol k else sI lt v k
def sG (lt tg : Nat → Int32) (v : Int64) : Nat → Int64
  | 0 => 0
  | k + 1 => if bi v k = true ∧ ins lt k = false then sG lt tg v k ||| ol (cl (tg k)) else sG lt tg v k
def sdX (lt tg : Nat → Int32) (v : Int64) (n : Nat) : Int64 := sI lt v n &&& (sG lt tg v n ^^^ (-1))
def cR (n : Nat) (mk lt tg : Nat → Int32) (pa : Nat → Int64) (i : Nat) : Bool := ins lt i && (ev n (tg i) && (decide (pa i = ol (cl (tg i))) && decide (mk i = mk (cl (tg i)))))
def cnX (an la : Nat → Int64) (v : Int64) : Nat → Nat
  | 0 => 0
  | k + 1 => if bi v k = true then cnX an la v k + pc64 (v &&& (rel an la k ^^^ (-1))) else cnX an la v k
def tpX (an : Nat → Int64) (r : Int64) : Nat → Int64
  | 0 => 0
  | k + 1 => if bi r k = true then an k ||| ol k else tpX an r k
def rnX (n : Nat) (mk lt tg : Nat → Int32) (pa : Nat → Int64) (v : Int64) : Nat → Nat
  | 0 => 0
  | k + 1 => if bi v k = true ∧ cR n mk lt tg pa k = false then rnX n mk lt tg pa v k + 1 else rnX n mk lt tg pa v k
def mL (la : Nat → Int64) (v : Int64) (j k : Nat) : Nat → Int64 := fun e => if e < k ∧ bi v e = true then la e ||| ol j else la e
theorem ev_f1 {n : Nat} {x : Int32} (h : x < 0) : ev n x = false := by simp [ev, h]
theorem ev_f2 {n : Nat} {x : Int32} (h : nI n ≤ x) : ev n x = false := by
  have : ¬ x < nI n := by rw [Int32.lt_iff_toInt_lt]; rw [Int32.le_iff_toInt_le] at h; omega
  simp [ev, this]
theorem ev_t {n : Nat} {x : Int32} (h1 : ¬ x < 0) (h2 : ¬ nI n ≤ x) : ev n x = true := by
  have : x < nI n := by rw [Int32.lt_iff_toInt_lt]; rw [Int32.le_iff_toInt_le] at h2; omega
  simp [ev, h1, this]
theorem has_0n {x : Int64} {i : Nat} (hi : i < 64) (h : ¬ x &&& ol i = 0) : bi x i = true := by
  cases q : bi x i
  · exact absurd ((has_0 hi).mpr q) h
  · rfl
theorem mL_0 (la : Nat → Int64) (v : Int64) (j : Nat) : mL la v j 0 = la := by
  funext e
  simp [mL]
theorem mL_t {la : Nat → Int64} {v : Int64} {j i : Nat} (h : bi v i = true) : vp_updL (mL la v j i) i (mL la v j i i ||| ol j) = mL la v j (i + 1) := by
  funext e
  unfold vp_updL mL
  by_cases q : e = i
  · subst q
    simp [h]
  · rw [if_neg q]
    by_cases z : e < i
    · simp [z, show e < i + 1 by omega]
    · simp [z, show ¬ e < i + 1 by omega]
theorem mL_f {la : Nat → Int64} {v : Int64} {j i : Nat} (h : bi v i = false) : mL la v j i = mL la v j (i + 1) := by
  funext e
  unfold mL
  by_cases q : e = i
  · subst q
    simp [h]
  · by_cases z : e < i
    · simp [z, show e < i + 1 by omega]
    · simp [z, show ¬ e < i + 1 by omega]
end
section
-- WHAT HOLDS OF EVERY STATE, and the text of a version
def gO (lt tg : Nat → Int32) (v : Int64) : Nat → Int32 → Bool
  | 0, _ => false
  | k + 1, x => gO lt tg v k x || (bi v k && (!ins lt k && decide (tg k = x)))
def vI (lt : Nat → Int32) (v : Int64) : Nat → Bool := fun k => bi v k && ins lt k
def tx (n : Nat) (lt tg : Nat → Int32) (v : Int64) : List Nat := (lay (vI lt v) tg n).filter (fun i => !gO lt tg v n (nI i))
def Inv (n : Nat) (lt tg : Nat → Int32) (an kn : Nat → Int64) : Prop :=
  n ≤ 60 ∧ (∀ a, a < 4 → ∀ i, bi (kn a) i = true → i < n) ∧ (∀ e, e < n → ∀ i, bi (an e) i = true → i < e) ∧
  (∀ a, a < 4 → ∀ e, bi (kn a) e = true → ∀ i, bi (an e) i = true → bi (kn a) i = true) ∧
  (∀ e, e < n → ∀ d, bi (an e) d = true → ∀ i, bi (an d) i = true → bi (an e) i = true) ∧
  (∀ e, e < n → ins lt e = true → tg e = -1 ∨ ∃ t, t < e ∧ tg e = nI t ∧ ins lt t = true ∧ bi (an e) t = true) ∧
  (∀ e, e < n → ins lt e = false → ∃ t, t < e ∧ tg e = nI t ∧ ins lt t = true ∧ bi (an e) t = true)
/-- a version: with each event its ancestors -/
def vok (n : Nat) (an : Nat → Int64) (v : Int64) : Prop := (∀ i, bi v i = true → i < n) ∧ ∀ e, bi v e = true → ∀ i, bi (an e) i = true → bi v i = true
section
variable {n : Nat} {mk lt tg : Nat → Int32} {pa an kn la : Nat → Int64} {v : Int64}
theorem Inv.vk (h : Inv n lt tg an kn) {a : Nat} (ha : a < 4) : vok n an (kn a) := ⟨h.2.1 a ha, h.2.2.2.1 a ha⟩
theorem Inv.ve (h : Inv n lt tg an kn) {e : Nat} (he : e < n) : vok n an (an e ||| ol e) := by
  have h60 := h.1
  refine ⟨fun i hi => ?_, fun d hd i hi => ?_⟩
  · rw [bi_or, bi_ol1 (by omega)] at hi
    simp only [Bool.or_eq_true, decide_eq_true_eq] at hi
    rcases hi with hi | rfl
    · have := h.2.2.1 e he i hi; omega
    · exact he
  · rw [bi_or, bi_ol1 (by omega)] at hd ⊢
    simp only [Bool.or_eq_true, decide_eq_true_eq] at hd ⊢
    rcases hd with hd | rfl
    · exact Or.inl (h.2.2.2.2.1 e he d hd i hi)
    · exact Or.inl hi
theorem Inv.hangV (h : Inv n lt tg an kn) (hv : vok n an v) : hang (vI lt v) tg n := by
  intro k hk hp
  simp only [vI, Bool.and_eq_true] at hp
  rcases h.2.2.2.2.2.1 k hk hp.2 with q | ⟨t, h1, h2, h3, h4⟩
  · exact Or.inl q
  · exact Or.inr ⟨t, h1, h2, by simp only [vI, Bool.and_eq_true]; exact ⟨hv.2 k hp.1 t h4, h3⟩⟩
theorem Inv.hangA (h : Inv n lt tg an kn) : hang (ins lt) tg n := by
  intro k hk hp
  rcases h.2.2.2.2.2.1 k hk hp with q | ⟨t, h1, h2, h3, h4⟩
  · exact Or.inl q
  · exact Or.inr ⟨t, h1, h2, h3⟩
theorem Inv.hdl (h : Inv n lt tg an kn) : ∀ k, k < n → bi v k = true → lt k = -1 → ∃ t, t < n ∧ tg k = nI t := by
  intro k hk _ hd
  obtain ⟨t, h1, h2, -⟩ := h.2.2.2.2.2.2 k hk (ins_f hd)
  exact ⟨t, by omega, h2⟩
theorem bi_sI : ∀ (k i : Nat), k ≤ 64 → bi (sI lt v k) i = (decide (i < k) && vI lt v i)
  | 0, i, _ => by rw [sI, bi_0]; simp
  | k + 1, i, hk => by
    rw [sI]
    by_cases q : bi v k = true ∧ ins lt k = true
    · rw [if_pos q, bi_or, bi_sI k i (by omega), bi_ol1 (by omega)]
      by_cases z : k = i
      · subst z; simp [vI, q.1, q.2]
      · have : decide (i < k + 1) = decide (i < k) := by
          by_cases y : i < k
          · simp [y, show i < k + 1 by omega]
          · simp [y, show ¬ i < k + 1 by omega]
        simp [z, this]
    · rw [if_neg q, bi_sI k i (by omega)]
      by_cases z : k = i
      · subst z
        have : vI lt v k = false := by
          cases h1 : vI lt v k
          · rfl
          · simp only [vI, Bool.and_eq_true] at h1; exact absurd h1 q
        simp [this]
      · have : decide (i < k + 1) = decide (i < k) := by
          by_cases y : i < k
          · simp [y, show i < k + 1 by omega]
          · simp [y, show ¬ i < k + 1 by omega]
        rw [this]
theorem bi_sG (hdl : ∀ k, k < n → bi v k = true → lt k = -1 → ∃ t, t < n ∧ tg k = nI t) (hn : n ≤ 60) : ∀ (k i : Nat), k ≤ n → i < 64 → bi (sG lt tg v k) i = gO lt tg v k (nI i)
  | 0, i, _, _ => by rw [sG, bi_0]; rfl
  | k + 1, i, hk, hi => by
    rw [sG, gO]
    by_cases q : bi v k = true ∧ ins lt k = false
    · obtain ⟨t, h1, h2⟩ := hdl k (by omega) q.1 (ins_eq q.2)
      rw [if_pos q, bi_or, bi_sG hdl hn k i (by omega) hi, h2, cl_nI (by omega), bi_ol1 (by omega), q.1, q.2]
      have : decide (t = i) = decide (nI t = nI i) := by
        by_cases z : t = i
        · simp [z]
        · have : ¬ nI t = nI i := fun y => z (nI_in1 (by omega) (by omega) y)
          simp [z, this]
      rw [this]
      simp
    · rw [if_neg q, bi_sG hdl hn k i (by omega) hi]
      have : (bi v k && (!ins lt k && decide (tg k = nI i))) = false := by
        cases h1 : bi v k
        · rfl
        · cases h2 : ins lt k
          · exact absurd ⟨h1, h2⟩ q
          · rfl
      rw [this, Bool.or_false]
theorem bi_sd (h : Inv n lt tg an kn) {i : Nat} (hi : i < n) : bi (sdX lt tg v n) i = (vI lt v i && !gO lt tg v n (nI i)) := by
  have h60 := h.1
  rw [sdX, bi_and, bi_not, bi_sI n i (by omega), bi_sG h.hdl h60 n i (Nat.le_refl _) (by omega)]
  simp [hi, show i < 64 by omega]
/-- the class's walk over all letters gives the text -/
theorem tx_all (h : Inv n lt tg an kn) (hv : vok n an v) : (lay (ins lt) tg n).filter (bi (sdX lt tg v n)) = tx n lt tg v := by
  have h60 := h.1
  rw [tx, lay_filter (P := ins lt) (by omega) (h.hangV hv) (fun k _ hk => by simp only [vI, Bool.and_eq_true] at hk; exact hk.2), List.filter_filter]
  refine List.filter_congr (fun i hi => ?_)
  rw [bi_sd h (lay_mem hi).1, Bool.and_comm]
/-- .. and so does its list of one version's letters -/
theorem tx_list (h : Inv n lt tg an kn) : (lay (vI lt v) tg n).filter (bi (sdX lt tg v n)) = tx n lt tg v := by
  rw [tx]
  refine List.filter_congr (fun i hi => ?_)
  rw [bi_sd h (lay_mem hi).1, (lay_mem hi).2, Bool.true_and]
theorem lay_len {P : Nat → Bool} : ∀ k, (lay P tg k).Nodup → (lay P tg k).length ≤ k := by
  intro k hn
  have h1 : (lay P tg k).Subset (List.range k) := fun x hx => List.mem_range.mpr (lay_mem hx).1
  have h2 := List.Nodup.length_le_of_subset hn h1
  rwa [List.length_range] at h2
theorem tx_mem {x : Nat} (h : x ∈ tx n lt tg v) : x < n ∧ bi v x = true ∧ ins lt x = true := by
  have h1 := (List.mem_filter.mp h).1
  have h2 := lay_mem h1
  simp only [vI, Bool.and_eq_true] at h2
  exact ⟨h2.1, h2.2.1, h2.2.2⟩
theorem tx_len (h : Inv n lt tg an kn) (hv : vok n an v) : (tx n lt tg v).length ≤ n := by
  have h60 := h.1
  exact Nat.le_trans (List.length_filter_le _ _) (lay_len n (lay_nodup (by omega) (h.hangV hv)))
end
end
section
-- THE CLASS: its readers (by gen.py, specX.py)
set_option maxHeartbeats 4000000 in
set_option maxRecDepth 100000 in
theorem c_X0_only (l : Launch) (D : va_G) (cI cJ : ClassId) (i : Nat) (hi : i < 64) : eg_MR D (tyL cI cJ) l yX0_only wsX0_only ({ frames := 0, cells := 0, slots := 0, locals := 0 }) [.int (nI i)] [] (some (.long (ol i))) := by
  refine Met.ofW (cc := cX0_only) (maxL := 1) (ret := (some .long)) (by decide) rfl ?_
  intro p e s m args below meth c s₁ B hml hv
  obtain ⟨rfl, hP, hK⟩ := hv
  have hx := B.exec
  have hb := B.bytes
  have hr := B.returns
  have hts := atoms_spec (ws := wsX0_only) B.pre
  have hown : s.vm.findClass RX0 = some m.cls := findClass_of_methodNamed B.named
  have hlocks := B.notSynchronized
  have hl := lv_entry ([.int (nI i)]) (n := 1) (Nat.le_of_ble_eq_true rfl)
  rw [lg_entry_eq]
  generalize (lg_sl ([.int (nI i)]) ++ List.replicate (1 - (lg_sl ([.int (nI i)])).length) Slot.unset).toArray = ls at hl ⊢
  have hl : lv_has ls 1 [(0, .int (nI i))] := hl
  refine lv_lconst (v := 1) hx hb dX0_only_0 (by decide) ?_
  refine lv_iload_n hx hb dX0_only_1 rfl (lv_at hl 0 rfl) ?_
  refine lv_lshl (v := (1 <<< ((nI i).toInt64 &&& 63))) hx hb dX0_only_2 rfl ?_
  exact W.lret hx hb hr (fun t9 ht9 _ => ⟨congrArg (fun z => Outcome.returned (some (Value.long z))) (by first | exact ol_shl i hi), ht9⟩) (fun q h => nomatch h) dX0_only_3
set_option maxHeartbeats 4000000 in
set_option maxRecDepth 100000 in
theorem c_X0_has (l : Launch) (D : va_G) (cI cJ : ClassId) (x : Int64) (i : Nat) (hi : i < 64) : eg_MR D (tyL cI cJ) l yX0_has wsX0_has ({ frames := 1, cells := 0, slots := 0, locals := 20 }) [.long x, .int (nI i)] [] (some (.int (eb (bi x i)))) := by
  refine Met.ofW (cc := cX0_has) (maxL := 3) (ret := (some .boolean)) (by decide) rfl ?_
  intro p e s m args below meth c s₁ B hml hv
  obtain ⟨rfl, hP, hK⟩ := hv
  have hx := B.exec
  have hb := B.bytes
  have hr := B.returns
  have hts := atoms_spec (ws := wsX0_has) B.pre
  have hown : s.vm.findClass RX0 = some m.cls := findClass_of_methodNamed B.named
  have hlocks := B.notSynchronized
  have hl := lv_entry ([.long x, .int (nI i)]) (n := 3) (Nat.le_of_ble_eq_true rfl)
  rw [lg_entry_eq]
  generalize (lg_sl ([.long x, .int (nI i)]) ++ List.replicate (3 - (lg_sl ([.long x, .int (nI i)])).length) Slot.unset).toArray = ls at hl ⊢
  have hl : lv_has ls 3 [(0, .long x), (2, .int (nI i))] := hl
  refine lv_lload_n hx hb dX0_has_0 rfl (lv_at hl 0 rfl) ?_
  refine lv_iload_n hx hb dX0_has_1 rfl (lv_at hl 1 rfl) ?_
  refine eg_callS (As := [.int (nI i)]) (rest := [.long x]) hx hb hml hown hts hK (c_X0_only l D cI cJ i hi) (va_cwS 1 hts gX0_has_X0_only rfl rfl rfl (by decide +kernel) ⟨Nat.le_of_ble_eq_true rfl, Nat.le_of_ble_eq_true rfl⟩) rfl hl.1 rfl (Nat.le_of_ble_eq_true rfl) dX0_has_2 ⟨Nat.zero_le _, Nat.zero_le _⟩ ?_
  refine lv_land hx hb dX0_has_5 ?_
  refine lv_lconst (v := 0) hx hb dX0_has_6 (by decide) ?_
  refine eg_lcmp_eq (tgt := 15) hx hb dX0_has_7 rfl dX0_has_8 (by decide) (fun c7 => ?_) (fun c7 => ?_)
  · refine lv_iconst (v := nI 0) hx hb dX0_has_15 (by decide +kernel) ?_
    exact W.zret hx hb hr rfl (fun t9 ht9 _ => ⟨congrArg (fun z => Outcome.returned (some (Value.int z))) (by first | exact eb_z ((has_0 hi).mp c7) | exact eb_1 (has_0n hi c7)), ht9⟩) (fun q h => nomatch h) dX0_has_16
  · refine lv_iconst (v := nI 1) hx hb dX0_has_11 (by decide +kernel) ?_
    refine lv_goto (tgt := 16) hx hb dX0_has_12 (by decide) ?_
    exact W.zret hx hb hr rfl (fun t9 ht9 _ => ⟨congrArg (fun z => Outcome.returned (some (Value.int z))) (by first | exact eb_z ((has_0 hi).mp c7) | exact eb_1 (has_0n hi c7)), ht9⟩) (fun q h => nomatch h) dX0_has_16
set_option maxHeartbeats 4000000 in
set_option maxRecDepth 100000 in
theorem c_X0_isEvent (l : Launch) (D : va_G) (cI cJ : ClassId) (q : Nat → Nat) (n : Nat) (mk lt tg : Nat → Int32) (pa an la kn : Nat → Int64) (fb : Int32) (fh nb te wt bh : Nat → Int32) (x : Int32) : eg_MR D (tyL cI cJ) l yX0_isEvent wsX0_isEvent ({ frames := 0, cells := 0, slots := 0, locals := 0 }) [.ref (q 0), .int x] (wX q cI cJ (nI n) mk lt tg pa an la kn fb fh nb te wt bh) (some (.int (eb (ev n x)))) := by
  refine Met.ofW (cc := cX0_isEvent) (maxL := 2) (ret := (some .boolean)) (by decide) rfl ?_
  intro p e s m args below meth c s₁ B hml hv
  obtain ⟨rfl, hP, hK⟩ := hv
  have hx := B.exec
  have hb := B.bytes
  have hr := B.returns
  have hts := atoms_spec (ws := wsX0_isEvent) B.pre
  have hown : s.vm.findClass RX0 = some m.cls := findClass_of_methodNamed B.named
  have hlocks := B.notSynchronized
  have hin : ∀ w ∈ u_ws RX0 TX0 14, w ∈ wsX0_isEvent := by decide +kernel
  have hl := lv_entry ([.ref (q 0), .int x]) (n := 2) (Nat.le_of_ble_eq_true rfl)
  rw [lg_entry_eq]
  generalize (lg_sl ([.ref (q 0), .int x]) ++ List.replicate (2 - (lg_sl ([.ref (q 0), .int x])).length) Slot.unset).toArray = ls at hl ⊢
  have hl : lv_has ls 2 [(0, .ref (q 0)), (1, .int x)] := hl
  refine lv_iload_n hx hb dX0_isEvent_0 rfl (lv_at hl 1 rfl) ?_
  refine lv_if_lt (tgt := 16) hx hb dX0_isEvent_1 (by decide) (fun c1 => ?_) (fun c1 => ?_)
  · refine lv_iconst (v := nI 0) hx hb dX0_isEvent_16 (by decide +kernel) ?_
    exact W.zret hx hb hr rfl (fun t9 ht9 _ => ⟨congrArg (fun z => Outcome.returned (some (Value.int z))) (by first | exact eb_z (ev_f1 c1) | exact eb_z (ev_f2 c9) | exact eb_1 (ev_t c1 c9)), ht9⟩) (fun q h => nomatch h) dX0_isEvent_17
  · refine lv_iload_n hx hb dX0_isEvent_4 rfl (lv_at hl 1 rfl) ?_
    refine lv_aload_n hx hb dX0_isEvent_5 rfl (lv_at hl 0 rfl) ?_
    refine va_get (D := D) (ci := 0) (v := .int (nI n)) (C := RX0) (T := TX0) (N := 14) hx hb hts hin hown hK hP 0 rfl rfl 0 (by decide) (hts (.fieldLink RX0 7 "EditGraph" "eventCount" "I") (by decide +kernel)) (fun _ h9 => h9) rfl dX0_isEvent_6 ?_
    refine lv_icmp_ge (tgt := 16) hx hb dX0_isEvent_9 (by decide) (fun c9 => ?_) (fun c9 => ?_)
    · refine lv_iconst (v := nI 0) hx hb dX0_isEvent_16 (by decide +kernel) ?_
      exact W.zret hx hb hr rfl (fun t9 ht9 _ => ⟨congrArg (fun z => Outcome.returned (some (Value.int z))) (by first | exact eb_z (ev_f1 c1) | exact eb_z (ev_f2 c9) | exact eb_1 (ev_t c1 c9)), ht9⟩) (fun q h => nomatch h) dX0_isEvent_17
    · refine lv_iconst (v := nI 1) hx hb dX0_isEvent_12 (by decide +kernel) ?_
      refine lv_goto (tgt := 17) hx hb dX0_isEvent_13 (by decide) ?_
      exact W.zret hx hb hr rfl (fun t9 ht9 _ => ⟨congrArg (fun z => Outcome.returned (some (Value.int z))) (by first | exact eb_z (ev_f1 c1) | exact eb_z (ev_f2 c9) | exact eb_1 (ev_t c1 c9)), ht9⟩) (fun q h => nomatch h) dX0_isEvent_17
set_option maxHeartbeats 4000000 in
set_option maxRecDepth 100000 in
theorem c_X0_isInsert (l : Launch) (D : va_G) (cI cJ : ClassId) (q : Nat → Nat) (n : Nat) (mk lt tg : Nat → Int32) (pa an la kn : Nat → Int64) (fb : Int32) (fh nb te wt bh : Nat → Int32) (i : Nat) (hi : i < 60) : eg_MR D (tyL cI cJ) l yX0_isInsert wsX0_isInsert ({ frames := 0, cells := 0, slots := 0, locals := 0 }) [.ref (q 0), .int (nI i)] (wX q cI cJ (nI n) mk lt tg pa an la kn fb fh nb te wt bh) (some (.int (eb (ins lt i)))) := by
  refine Met.ofW (cc := cX0_isInsert) (maxL := 2) (ret := (some .boolean)) (by decide) rfl ?_
  intro p e s m args below meth c s₁ B hml hv
  obtain ⟨rfl, hP, hK⟩ := hv
  have hx := B.exec
  have hb := B.bytes
  have hr := B.returns
  have hts := atoms_spec (ws := wsX0_isInsert) B.pre
  have hown : s.vm.findClass RX0 = some m.cls := findClass_of_methodNamed B.named
  have hlocks := B.notSynchronized
  have hin : ∀ w ∈ u_ws RX0 TX0 14, w ∈ wsX0_isInsert := by decide +kernel
  have hl := lv_entry ([.ref (q 0), .int (nI i)]) (n := 2) (Nat.le_of_ble_eq_true rfl)
  rw [lg_entry_eq]
  generalize (lg_sl ([.ref (q 0), .int (nI i)]) ++ List.replicate (2 - (lg_sl ([.ref (q 0), .int (nI i)])).length) Slot.unset).toArray = ls at hl ⊢
  have hl : lv_has ls 2 [(0, .ref (q 0)), (1, .int (nI i))] := hl
  refine lv_aload_n hx hb dX0_isInsert_0 rfl (lv_at hl 0 rfl) ?_
  refine va_get (D := D) (ci := 0) (v := .ref (q 2)) (C := RX0) (T := TX0) (N := 14) hx hb hts hin hown hK hP 0 rfl rfl 2 (by decide) (hts (.fieldLink RX0 17 "EditGraph" "letters" "[I") (by decide +kernel)) (fun _ h9 => h9) rfl dX0_isInsert_1 ?_
  refine lv_iload_n hx hb dX0_isInsert_4 rfl (lv_at hl 1 rfl) ?_
  refine eg_iald hx hb hK hP 2 0 rfl rfl (by omega) (by decide) dX0_isInsert_5 ?_
  refine lv_iconst (v := (-1)) hx hb dX0_isInsert_6 (by decide +kernel) ?_
  refine lv_icmp_eq (tgt := 14) hx hb dX0_isInsert_7 (by decide) (fun c7 => ?_) (fun c7 => ?_)
  · refine lv_iconst (v := nI 0) hx hb dX0_isInsert_14 (by decide +kernel) ?_
    exact W.zret hx hb hr rfl (fun t9 ht9 _ => ⟨congrArg (fun z => Outcome.returned (some (Value.int z))) (by first | exact eb_z (ins_f c7) | exact eb_1 (ins_t c7)), ht9⟩) (fun q h => nomatch h) dX0_isInsert_15
  · refine lv_iconst (v := nI 1) hx hb dX0_isInsert_10 (by decide +kernel) ?_
    refine lv_goto (tgt := 15) hx hb dX0_isInsert_11 (by decide) ?_
    exact W.zret hx hb hr rfl (fun t9 ht9 _ => ⟨congrArg (fun z => Outcome.returned (some (Value.int z))) (by first | exact eb_z (ins_f c7) | exact eb_1 (ins_t c7)), ht9⟩) (fun q h => nomatch h) dX0_isInsert_15
set_option maxHeartbeats 4000000 in
set_option maxRecDepth 100000 in
theorem c_X0_versionOfEvent (l : Launch) (D : va_G) (cI cJ : ClassId) (q : Nat → Nat) (n : Nat) (mk lt tg : Nat → Int32) (pa an la kn : Nat → Int64) (fb : Int32) (fh nb te wt bh : Nat → Int32) (i : Nat) (hi : i < 60) : eg_MR D (tyL cI cJ) l yX0_versionOfEvent wsX0_versionOfEvent ({ frames := 1, cells := 0, slots := 0, locals := 20 }) [.ref (q 0), .int (nI i)] (wX q cI cJ (nI n) mk lt tg pa an la kn fb fh nb te wt bh) (some (.long (an i ||| ol i))) := by
  refine Met.ofW (cc := cX0_versionOfEvent) (maxL := 2) (ret := (some .long)) (by decide) rfl ?_
  intro p e s m args below meth c s₁ B hml hv
  obtain ⟨rfl, hP, hK⟩ := hv
  have hx := B.exec
  have hb := B.bytes
  have hr := B.returns
  have hts := atoms_spec (ws := wsX0_versionOfEvent) B.pre
  have hown : s.vm.findClass RX0 = some m.cls := findClass_of_methodNamed B.named
  have hlocks := B.notSynchronized
  have hin : ∀ w ∈ u_ws RX0 TX0 14, w ∈ wsX0_versionOfEvent := by decide +kernel
  have hl := lv_entry ([.ref (q 0), .int (nI i)]) (n := 2) (Nat.le_of_ble_eq_true rfl)
  rw [lg_entry_eq]
  generalize (lg_sl ([.ref (q 0), .int (nI i)]) ++ List.replicate (2 - (lg_sl ([.ref (q 0), .int (nI i)])).length) Slot.unset).toArray = ls at hl ⊢
  have hl : lv_has ls 2 [(0, .ref (q 0)), (1, .int (nI i))] := hl
  refine lv_aload_n hx hb dX0_versionOfEvent_0 rfl (lv_at hl 0 rfl) ?_
  refine va_get (D := D) (ci := 0) (v := .ref (q 5)) (C := RX0) (T := TX0) (N := 14) hx hb hts hin hown hK hP 0 rfl rfl 5 (by decide) (hts (.fieldLink RX0 27 "EditGraph" "ancestorSets" "[J") (by decide +kernel)) (fun _ h9 => h9) rfl dX0_versionOfEvent_1 ?_
  refine lv_iload_n hx hb dX0_versionOfEvent_4 rfl (lv_at hl 1 rfl) ?_
  refine eg_lald hx hb hK hP 5 1 rfl rfl (by omega) (by decide) dX0_versionOfEvent_5 ?_
  refine lv_iload_n hx hb dX0_versionOfEvent_6 rfl (lv_at hl 1 rfl) ?_
  refine eg_callS (As := [.int (nI i)]) (rest := [.long (an i)]) hx hb hml hown hts hK (c_X0_only l D cI cJ i (by omega)) (va_cwS 1 hts gX0_versionOfEvent_X0_only rfl rfl rfl (by decide +kernel) ⟨Nat.le_of_ble_eq_true rfl, Nat.le_of_ble_eq_true rfl⟩) rfl hl.1 rfl (Nat.le_of_ble_eq_true rfl) dX0_versionOfEvent_7 ⟨Nat.zero_le _, Nat.zero_le _⟩ ?_
  refine lv_lor hx hb dX0_versionOfEvent_10 ?_
  exact W.lret hx hb hr (fun t9 ht9 _ => ⟨congrArg (fun z => Outcome.returned (some (Value.long z))) (by first | exact rfl), ht9⟩) (fun q h => nomatch h) dX0_versionOfEvent_11
set_option maxHeartbeats 4000000 in
set_option maxRecDepth 100000 in
theorem c_X0_relatedTo (l : Launch) (D : va_G) (cI cJ : ClassId) (q : Nat → Nat) (n : Nat) (mk lt tg : Nat → Int32) (pa an la kn : Nat → Int64) (fb : Int32) (fh nb te wt bh : Nat → Int32) (i : Nat) (hi : i < 60) : eg_MR D (tyL cI cJ) l yX0_relatedTo wsX0_relatedTo ({ frames := 2, cells := 0, slots := 0, locals := 41 }) [.ref (q 0), .int (nI i)] (wX q cI cJ (nI n) mk lt tg pa an la kn fb fh nb te wt bh) (some (.long (rel an la i))) := by
  refine Met.ofW (cc := cX0_relatedTo) (maxL := 2) (ret := (some .long)) (by decide) rfl ?_
  intro p e s m args below meth c s₁ B hml hv
  obtain ⟨rfl, hP, hK⟩ := hv
  have hx := B.exec
  have hb := B.bytes
  have hr := B.returns
  have hts := atoms_spec (ws := wsX0_relatedTo) B.pre
  have hown : s.vm.findClass RX0 = some m.cls := findClass_of_methodNamed B.named
  have hlocks := B.notSynchronized
  have hin : ∀ w ∈ u_ws RX0 TX0 14, w ∈ wsX0_relatedTo := by decide +kernel
  have hl := lv_entry ([.ref (q 0), .int (nI i)]) (n := 2) (Nat.le_of_ble_eq_true rfl)
  rw [lg_entry_eq]
  generalize (lg_sl ([.ref (q 0), .int (nI i)]) ++ List.replicate (2 - (lg_sl ([.ref (q 0), .int (nI i)])).length) Slot.unset).toArray = ls at hl ⊢
  have hl : lv_has ls 2 [(0, .ref (q 0)), (1, .int (nI i))] := hl
  refine lv_aload_n hx hb dX0_relatedTo_0 rfl (lv_at hl 0 rfl) ?_
  refine lv_iload_n hx hb dX0_relatedTo_1 rfl (lv_at hl 1 rfl) ?_
  refine eg_callV (As := [.int (nI i)]) (rest := []) hx hb hml hown hts hK hP (c_X0_versionOfEvent l D cI cJ q n mk lt tg pa an la kn fb fh nb te wt bh i hi) (cwV 1 hts gX0_relatedTo_X0_versionOfEvent rfl rfl rfl (by decide +kernel) ⟨Nat.le_of_ble_eq_true rfl, Nat.le_of_ble_eq_true rfl⟩) (va_recv hK hP (ci := 0) (q0 := 0) rfl rfl) rfl hl.1 rfl (Nat.le_of_ble_eq_true rfl) dX0_relatedTo_2 ⟨Nat.zero_le _, Nat.zero_le _⟩ ?_
  refine lv_aload_n hx hb dX0_relatedTo_5 rfl (lv_at hl 0 rfl) ?_
  refine va_get (D := D) (ci := 0) (v := .ref (q 6)) (C := RX0) (T := TX0) (N := 14) hx hb hts hin hown hK hP 0 rfl rfl 6 (by decide) (hts (.fieldLink RX0 30 "EditGraph" "laterSets" "[J") (by decide +kernel)) (fun _ h9 => h9) rfl dX0_relatedTo_6 ?_
  refine lv_iload_n hx hb dX0_relatedTo_9 rfl (lv_at hl 1 rfl) ?_
  refine eg_lald hx hb hK hP 6 1 rfl rfl (by omega) (by decide) dX0_relatedTo_10 ?_
  refine lv_lor hx hb dX0_relatedTo_11 ?_
  exact W.lret hx hb hr (fun t9 ht9 _ => ⟨congrArg (fun z => Outcome.returned (some (Value.long z))) (by first | exact rfl), ht9⟩) (fun q h => nomatch h) dX0_relatedTo_12
set_option maxHeartbeats 4000000 in
set_option maxRecDepth 100000 in
theorem c_X0_headsOf (l : Launch) (D : va_G) (cI cJ : ClassId) (q : Nat → Nat) (n : Nat) (mk lt tg : Nat → Int32) (pa an la kn : Nat → Int64) (fb : Int32) (fh nb te wt bh : Nat → Int32) (v : Int64) (hn : n ≤ 60) : eg_MR D (tyL cI cJ) l yX0_headsOf wsX0_headsOf ({ frames := 2, cells := 0, slots := 0, locals := 42 }) [.ref (q 0), .long v] (wX q cI cJ (nI n) mk lt tg pa an la kn fb fh nb te wt bh) (some (.long (hdX pa v n))) := by
  refine Met.ofW (cc := cX0_headsOf) (maxL := 6) (ret := (some .long)) (by decide) rfl ?_
  intro p e s m args below meth c s₁ B hml hv
  obtain ⟨rfl, hP, hK⟩ := hv
  have hx := B.exec
  have hb := B.bytes
  have hr := B.returns
  have hts := atoms_spec (ws := wsX0_headsOf) B.pre
  have hown : s.vm.findClass RX0 = some m.cls := findClass_of_methodNamed B.named
  have hlocks := B.notSynchronized
  have hin : ∀ w ∈ u_ws RX0 TX0 14, w ∈ wsX0_headsOf := by decide +kernel
  have hl := lv_entry ([.ref (q 0), .long v]) (n := 6) (Nat.le_of_ble_eq_true rfl)
  rw [lg_entry_eq]
  generalize (lg_sl ([.ref (q 0), .long v]) ++ List.replicate (6 - (lg_sl ([.ref (q 0), .long v])).length) Slot.unset).toArray = ls at hl ⊢
  have hl : lv_has ls 6 [(0, .ref (q 0)), (1, .long v)] := hl
  have loop : ∀ (f i : Nat) (ls : Array Slot), n < i + f → i ≤ n → lv_has ls 6 [(0, .ref (q 0)), (1, .long v), (3, .long (hO pa v i)), (5, .int (nI i))] → W p l e (headSpec wsX0_headsOf ({ frames := 2, cells := 0, slots := 0, locals := 42 })).room s m ([.ref (q 0), .long v] : List Value).toArray below meth c s.heap [] 0 0 (MQ below (eg_R (some (.long (hdX pa v n)))) ([.ref (q 0), .long v] : List Value).toArray s 0 0 (fun _ => False)) (F0 m 5 ls []) := by
    intro f
    induction f with
    | zero => intro i  ls h1 h2 hl; omega
    | succ f ih =>
      intro i  ls h1 h2 hl
      refine lv_iload hx hb dX0_headsOf_5 (lv_at hl 3 rfl) ?_
      refine lv_aload_n hx hb dX0_headsOf_7 rfl (lv_at hl 0 rfl) ?_
      refine va_get (D := D) (ci := 0) (v := .int (nI n)) (C := RX0) (T := TX0) (N := 14) hx hb hts hin hown hK hP 0 rfl rfl 0 (by decide) (hts (.fieldLink RX0 7 "EditGraph" "eventCount" "I") (by decide +kernel)) (fun _ h9 => h9) rfl dX0_headsOf_8 ?_
      refine eg_icmp_ge (tgt := 39) hx hb dX0_headsOf_11 (by decide) (by omega) (by omega) (fun c11 => ?_) (fun c11 => ?_)
      · refine lv_lload_n hx hb dX0_headsOf_39 rfl (lv_at hl 1 rfl) ?_
        refine lv_lload_n hx hb dX0_headsOf_40 rfl (lv_at hl 2 rfl) ?_
        refine lv_ldc2 hx hb hown (hts (.constantLong RX0 112 (-1)) (by decide +kernel)) dX0_headsOf_41 ?_
        refine lv_lxor hx hb dX0_headsOf_44 ?_
        refine lv_land hx hb dX0_headsOf_45 ?_
        exact W.lret hx hb hr (fun t9 ht9 _ => ⟨congrArg (fun z => Outcome.returned (some (Value.long z))) (by first | (rw [hdX, show n = i by omega]; done)), ht9⟩) (fun q h => nomatch h) dX0_headsOf_46
      · refine lv_lload_n hx hb dX0_headsOf_14 rfl (lv_at hl 1 rfl) ?_
        refine lv_iload hx hb dX0_headsOf_15 (lv_at hl 3 rfl) ?_
        refine eg_callS (As := [.long v, .int (nI i)]) (rest := []) hx hb hml hown hts hK (c_X0_has l D cI cJ v i (by omega)) (va_cwS 2 hts gX0_headsOf_X0_has rfl rfl rfl (by decide +kernel) ⟨Nat.le_of_ble_eq_true rfl, Nat.le_of_ble_eq_true rfl⟩) rfl hl.1 rfl (Nat.le_of_ble_eq_true rfl) dX0_headsOf_17 ⟨Nat.zero_le _, Nat.zero_le _⟩ ?_
        refine eg_ifeq_b (tgt := 33) hx hb dX0_headsOf_20 (by decide) (fun c20 => ?_) (fun c20 => ?_)
        · refine lv_iinc (v := nI (i + 1)) (lv' := [(5, .int (nI (i + 1))), (0, .ref (q 0)), (1, .long v), (3, .long (hO pa v i))]) hx hb dX0_headsOf_33 hl (k := 3) rfl (eg_inc1 _) (by decide) rfl (fun ls hl => ?_)
          refine lv_goto (tgt := 5) hx hb dX0_headsOf_36 (by decide) ?_
          have eA0 : hO pa v (i + 1) = hO pa v i := by first | (simp [hO, c20]; done)
          exact ih (i + 1) _ (by omega) (by omega) (by rw [eA0]; exact lv_sub hl [1, 2, 3, 0] rfl)
        · refine lv_lload_n hx hb dX0_headsOf_23 rfl (lv_at hl 2 rfl) ?_
          refine lv_aload_n hx hb dX0_headsOf_24 rfl (lv_at hl 0 rfl) ?_
          refine va_get (D := D) (ci := 0) (v := .ref (q 4)) (C := RX0) (T := TX0) (N := 14) hx hb hts hin hown hK hP 0 rfl rfl 4 (by decide) (hts (.fieldLink RX0 23 "EditGraph" "parentSets" "[J") (by decide +kernel)) (fun _ h9 => h9) rfl dX0_headsOf_25 ?_
          refine lv_iload hx hb dX0_headsOf_28 (lv_at hl 3 rfl) ?_
          refine eg_lald hx hb hK hP 4 1 rfl rfl (by omega) (by decide) dX0_headsOf_30 ?_
          refine lv_lor hx hb dX0_headsOf_31 ?_
          refine lv_lstore_n (lv' := [(3, .long ((hO pa v i) ||| (pa i))), (0, .ref (q 0)), (1, .long v), (5, .int (nI i))]) hx hb dX0_headsOf_32 rfl hl (by decide) rfl (fun ls hl => ?_)
          refine lv_iinc (v := nI (i + 1)) (lv' := [(5, .int (nI (i + 1))), (3, .long ((hO pa v i) ||| (pa i))), (0, .ref (q 0)), (1, .long v)]) hx hb dX0_headsOf_33 hl (k := 3) rfl (eg_inc1 _) (by decide) rfl (fun ls hl => ?_)
          refine lv_goto (tgt := 5) hx hb dX0_headsOf_36 (by decide) ?_
          have eA0 : hO pa v (i + 1) = ((hO pa v i) ||| (pa i)) := by first | (simp [hO, c20]; done)
          exact ih (i + 1) _ (by omega) (by omega) (by rw [eA0]; exact lv_sub hl [2, 3, 1, 0] rfl)
  refine lv_lconst (v := 0) hx hb dX0_headsOf_0 (by decide) ?_
  refine lv_lstore_n (lv' := [(3, .long 0), (0, .ref (q 0)), (1, .long v)]) hx hb dX0_headsOf_1 rfl hl (by decide) rfl (fun ls hl => ?_)
  refine lv_iconst (v := nI 0) hx hb dX0_headsOf_2 (by decide +kernel) ?_
  refine lv_istore (lv' := [(5, .int (nI 0)), (3, .long 0), (0, .ref (q 0)), (1, .long v)]) hx hb dX0_headsOf_3 hl (by decide) rfl (fun ls hl => ?_)
  exact loop (n + 1) 0 _ (by omega) (by omega) (lv_sub hl [2, 3, 1, 0] rfl)
set_option maxHeartbeats 4000000 in
set_option maxRecDepth 100000 in
theorem c_X0_criticalOf (l : Launch) (D : va_G) (cI cJ : ClassId) (q : Nat → Nat) (n : Nat) (mk lt tg : Nat → Int32) (pa an la kn : Nat → Int64) (fb : Int32) (fh nb te wt bh : Nat → Int32) (v : Int64) (hn : n ≤ 60) : eg_MR D (tyL cI cJ) l yX0_criticalOf wsX0_criticalOf ({ frames := 3, cells := 0, slots := 0, locals := 62 }) [.ref (q 0), .long v] (wX q cI cJ (nI n) mk lt tg pa an la kn fb fh nb te wt bh) (some (.long (cO an la v n))) := by
  refine Met.ofW (cc := cX0_criticalOf) (maxL := 6) (ret := (some .long)) (by decide) rfl ?_
  intro p e s m args below meth c s₁ B hml hv
  obtain ⟨rfl, hP, hK⟩ := hv
  have hx := B.exec
  have hb := B.bytes
  have hr := B.returns
  have hts := atoms_spec (ws := wsX0_criticalOf) B.pre
  have hown : s.vm.findClass RX0 = some m.cls := findClass_of_methodNamed B.named
  have hlocks := B.notSynchronized
  have hin : ∀ w ∈ u_ws RX0 TX0 14, w ∈ wsX0_criticalOf := by decide +kernel
  have hl := lv_entry ([.ref (q 0), .long v]) (n := 6) (Nat.le_of_ble_eq_true rfl)
  rw [lg_entry_eq]
  generalize (lg_sl ([.ref (q 0), .long v]) ++ List.replicate (6 - (lg_sl ([.ref (q 0), .long v])).length) Slot.unset).toArray = ls at hl ⊢
  have hl : lv_has ls 6 [(0, .ref (q 0)), (1, .long v)] := hl
  have loop : ∀ (f i : Nat) (ls : Array Slot), n < i + f → i ≤ n → lv_has ls 6 [(0, .ref (q 0)), (1, .long v), (3, .long (cO an la v i)), (5, .int (nI i))] → W p l e (headSpec wsX0_criticalOf ({ frames := 3, cells := 0, slots := 0, locals := 62 })).room s m ([.ref (q 0), .long v] : List Value).toArray below meth c s.heap [] 0 0 (MQ below (eg_R (some (.long (cO an la v n)))) ([.ref (q 0), .long v] : List Value).toArray s 0 0 (fun _ => False)) (F0 m 5 ls []) := by
    intro f
    induction f with
    | zero => intro i  ls h1 h2 hl; omega
    | succ f ih =>
      intro i  ls h1 h2 hl
      refine lv_iload hx hb dX0_criticalOf_5 (lv_at hl 3 rfl) ?_
      refine lv_aload_n hx hb dX0_criticalOf_7 rfl (lv_at hl 0 rfl) ?_
      refine va_get (D := D) (ci := 0) (v := .int (nI n)) (C := RX0) (T := TX0) (N := 14) hx hb hts hin hown hK hP 0 rfl rfl 0 (by decide) (hts (.fieldLink RX0 7 "EditGraph" "eventCount" "I") (by decide +kernel)) (fun _ h9 => h9) rfl dX0_criticalOf_8 ?_
      refine eg_icmp_ge (tgt := 54) hx hb dX0_criticalOf_11 (by decide) (by omega) (by omega) (fun c11 => ?_) (fun c11 => ?_)
      · refine lv_lload_n hx hb dX0_criticalOf_54 rfl (lv_at hl 2 rfl) ?_
        exact W.lret hx hb hr (fun t9 ht9 _ => ⟨congrArg (fun z => Outcome.returned (some (Value.long z))) (by first | (rw [show n = i by omega]; done)), ht9⟩) (fun q h => nomatch h) dX0_criticalOf_55
      · refine lv_lload_n hx hb dX0_criticalOf_14 rfl (lv_at hl 1 rfl) ?_
        refine lv_iload hx hb dX0_criticalOf_15 (lv_at hl 3 rfl) ?_
        refine eg_callS (As := [.long v, .int (nI i)]) (rest := []) hx hb hml hown hts hK (c_X0_has l D cI cJ v i (by omega)) (va_cwS 2 hts gX0_criticalOf_X0_has rfl rfl rfl (by decide +kernel) ⟨Nat.le_of_ble_eq_true rfl, Nat.le_of_ble_eq_true rfl⟩) rfl hl.1 rfl (Nat.le_of_ble_eq_true rfl) dX0_criticalOf_17 ⟨Nat.zero_le _, Nat.zero_le _⟩ ?_
        refine eg_ifeq_b (tgt := 48) hx hb dX0_criticalOf_20 (by decide) (fun c20 => ?_) (fun c20 => ?_)
        · refine lv_iinc (v := nI (i + 1)) (lv' := [(5, .int (nI (i + 1))), (0, .ref (q 0)), (1, .long v), (3, .long (cO an la v i))]) hx hb dX0_criticalOf_48 hl (k := 3) rfl (eg_inc1 _) (by decide) rfl (fun ls hl => ?_)
          refine lv_goto (tgt := 5) hx hb dX0_criticalOf_51 (by decide) ?_
          have eA0 : cO an la v (i + 1) = cO an la v i := by first | (rw [cO, if_pos ⟨c20, c36⟩]; done) | (rw [cO, if_neg (fun h => c36 h.2)]; done) | (rw [cO, if_neg (by simp [c20])]; done)
          exact ih (i + 1) _ (by omega) (by omega) (by rw [eA0]; exact lv_sub hl [1, 2, 3, 0] rfl)
        · refine lv_lload_n hx hb dX0_criticalOf_23 rfl (lv_at hl 1 rfl) ?_
          refine lv_aload_n hx hb dX0_criticalOf_24 rfl (lv_at hl 0 rfl) ?_
          refine lv_iload hx hb dX0_criticalOf_25 (lv_at hl 3 rfl) ?_
          refine eg_callV (As := [.int (nI i)]) (rest := [.long v]) hx hb hml hown hts hK hP (c_X0_relatedTo l D cI cJ q n mk lt tg pa an la kn fb fh nb te wt bh i (by omega)) (cwV 1 hts gX0_criticalOf_X0_relatedTo rfl rfl rfl (by decide +kernel) ⟨Nat.le_of_ble_eq_true rfl, Nat.le_of_ble_eq_true rfl⟩) (va_recv hK hP (ci := 0) (q0 := 0) rfl rfl) rfl hl.1 rfl (Nat.le_of_ble_eq_true rfl) dX0_criticalOf_27 ⟨Nat.zero_le _, Nat.zero_le _⟩ ?_
          refine lv_ldc2 hx hb hown (hts (.constantLong RX0 112 (-1)) (by decide +kernel)) dX0_criticalOf_30 ?_
          refine lv_lxor hx hb dX0_criticalOf_33 ?_
          refine lv_land hx hb dX0_criticalOf_34 ?_
          refine lv_lconst (v := 0) hx hb dX0_criticalOf_35 (by decide) ?_
          refine eg_lcmp_ne (tgt := 48) hx hb dX0_criticalOf_36 rfl dX0_criticalOf_37 (by decide) (fun c36 => ?_) (fun c36 => ?_)
          · refine lv_iinc (v := nI (i + 1)) (lv' := [(5, .int (nI (i + 1))), (0, .ref (q 0)), (1, .long v), (3, .long (cO an la v i))]) hx hb dX0_criticalOf_48 hl (k := 3) rfl (eg_inc1 _) (by decide) rfl (fun ls hl => ?_)
            refine lv_goto (tgt := 5) hx hb dX0_criticalOf_51 (by decide) ?_
            have eA0 : cO an la v (i + 1) = cO an la v i := by first | (rw [cO, if_pos ⟨c20, c36⟩]; done) | (rw [cO, if_neg (fun h => c36 h.2)]; done) | (rw [cO, if_neg (by simp [c20])]; done)
            exact ih (i + 1) _ (by omega) (by omega) (by rw [eA0]; exact lv_sub hl [1, 2, 3, 0] rfl)
          · refine lv_lload_n hx hb dX0_criticalOf_40 rfl (lv_at hl 2 rfl) ?_
            refine lv_iload hx hb dX0_criticalOf_41 (lv_at hl 3 rfl) ?_
            refine eg_callS (As := [.int (nI i)]) (rest := [.long (cO an la v i)]) hx hb hml hown hts hK (c_X0_only l D cI cJ i (by omega)) (va_cwS 1 hts gX0_criticalOf_X0_only rfl rfl rfl (by decide +kernel) ⟨Nat.le_of_ble_eq_true rfl, Nat.le_of_ble_eq_true rfl⟩) rfl hl.1 rfl (Nat.le_of_ble_eq_true rfl) dX0_criticalOf_43 ⟨Nat.zero_le _, Nat.zero_le _⟩ ?_
            refine lv_lor hx hb dX0_criticalOf_46 ?_
            refine lv_lstore_n (lv' := [(3, .long ((cO an la v i) ||| (ol i))), (0, .ref (q 0)), (1, .long v), (5, .int (nI i))]) hx hb dX0_criticalOf_47 rfl hl (by decide) rfl (fun ls hl => ?_)
            refine lv_iinc (v := nI (i + 1)) (lv' := [(5, .int (nI (i + 1))), (3, .long ((cO an la v i) ||| (ol i))), (0, .ref (q 0)), (1, .long v)]) hx hb dX0_criticalOf_48 hl (k := 3) rfl (eg_inc1 _) (by decide) rfl (fun ls hl => ?_)
            refine lv_goto (tgt := 5) hx hb dX0_criticalOf_51 (by decide) ?_
            have eA0 : cO an la v (i + 1) = ((cO an la v i) ||| (ol i)) := by first | (rw [cO, if_pos ⟨c20, c36⟩]; done) | (rw [cO, if_neg (fun h => c36 h.2)]; done) | (rw [cO, if_neg (by simp [c20])]; done)
            exact ih (i + 1) _ (by omega) (by omega) (by rw [eA0]; exact lv_sub hl [2, 3, 1, 0] rfl)
  refine lv_lconst (v := 0) hx hb dX0_criticalOf_0 (by decide) ?_
  refine lv_lstore_n (lv' := [(3, .long 0), (0, .ref (q 0)), (1, .long v)]) hx hb dX0_criticalOf_1 rfl hl (by decide) rfl (fun ls hl => ?_)
  refine lv_iconst (v := nI 0) hx hb dX0_criticalOf_2 (by decide +kernel) ?_
  refine lv_istore (lv' := [(5, .int (nI 0)), (3, .long 0), (0, .ref (q 0)), (1, .long v)]) hx hb dX0_criticalOf_3 hl (by decide) rfl (fun ls hl => ?_)
  exact loop (n + 1) 0 _ (by omega) (by omega) (lv_sub hl [2, 3, 1, 0] rfl)
set_option maxHeartbeats 4000000 in
set_option maxRecDepth 100000 in
theorem c_X0_standingIn (l : Launch) (D : va_G) (cI cJ : ClassId) (q : Nat → Nat) (n : Nat) (mk lt tg : Nat → Int32) (pa an la kn : Nat → Int64) (fb : Int32) (fh nb te wt bh : Nat → Int32) (v : Int64) (hn : n ≤ 60) (hdl : ∀ k, k < n → bi v k = true → lt k = -1 → ∃ t, t < n ∧ tg k = nI t) : eg_MR D (tyL cI cJ) l yX0_standingIn wsX0_standingIn ({ frames := 2, cells := 0, slots := 0, locals := 42 }) [.ref (q 0), .long v] (wX q cI cJ (nI n) mk lt tg pa an la kn fb fh nb te wt bh) (some (.long (sdX lt tg v n))) := by
  refine Met.ofW (cc := cX0_standingIn) (maxL := 8) (ret := (some .long)) (by decide) rfl ?_
  intro p e s m args below meth c s₁ B hml hv
  obtain ⟨rfl, hP, hK⟩ := hv
  have hx := B.exec
  have hb := B.bytes
  have hr := B.returns
  have hts := atoms_spec (ws := wsX0_standingIn) B.pre
  have hown : s.vm.findClass RX0 = some m.cls := findClass_of_methodNamed B.named
  have hlocks := B.notSynchronized
  have hin : ∀ w ∈ u_ws RX0 TX0 14, w ∈ wsX0_standingIn := by decide +kernel
  have hl := lv_entry ([.ref (q 0), .long v]) (n := 8) (Nat.le_of_ble_eq_true rfl)
  rw [lg_entry_eq]
  generalize (lg_sl ([.ref (q 0), .long v]) ++ List.replicate (8 - (lg_sl ([.ref (q 0), .long v])).length) Slot.unset).toArray = ls at hl ⊢
  have hl : lv_has ls 8 [(0, .ref (q 0)), (1, .long v)] := hl
  have loop : ∀ (f i : Nat) (ls : Array Slot), n < i + f → i ≤ n → lv_has ls 8 [(0, .ref (q 0)), (1, .long v), (3, .long (sI lt v i)), (5, .long (sG lt tg v i)), (7, .int (nI i))] → W p l e (headSpec wsX0_standingIn ({ frames := 2, cells := 0, slots := 0, locals := 42 })).room s m ([.ref (q 0), .long v] : List Value).toArray below meth c s.heap [] 0 0 (MQ below (eg_R (some (.long (sdX lt tg v n)))) ([.ref (q 0), .long v] : List Value).toArray s 0 0 (fun _ => False)) (F0 m 8 ls []) := by
    intro f
    induction f with
    | zero => intro i  ls h1 h2 hl; omega
    | succ f ih =>
      intro i  ls h1 h2 hl
      refine lv_iload hx hb dX0_standingIn_8 (lv_at hl 4 rfl) ?_
      refine lv_aload_n hx hb dX0_standingIn_10 rfl (lv_at hl 0 rfl) ?_
      refine va_get (D := D) (ci := 0) (v := .int (nI n)) (C := RX0) (T := TX0) (N := 14) hx hb hts hin hown hK hP 0 rfl rfl 0 (by decide) (hts (.fieldLink RX0 7 "EditGraph" "eventCount" "I") (by decide +kernel)) (fun _ h9 => h9) rfl dX0_standingIn_11 ?_
      refine eg_icmp_ge (tgt := 67) hx hb dX0_standingIn_14 (by decide) (by omega) (by omega) (fun c14 => ?_) (fun c14 => ?_)
      · refine lv_lload_n hx hb dX0_standingIn_67 rfl (lv_at hl 2 rfl) ?_
        refine lv_lload hx hb dX0_standingIn_68 (lv_at hl 3 rfl) ?_
        refine lv_ldc2 hx hb hown (hts (.constantLong RX0 112 (-1)) (by decide +kernel)) dX0_standingIn_70 ?_
        refine lv_lxor hx hb dX0_standingIn_73 ?_
        refine lv_land hx hb dX0_standingIn_74 ?_
        exact W.lret hx hb hr (fun t9 ht9 _ => ⟨congrArg (fun z => Outcome.returned (some (Value.long z))) (by first | (rw [sdX, show n = i by omega]; done)), ht9⟩) (fun q h => nomatch h) dX0_standingIn_75
      · refine lv_lload_n hx hb dX0_standingIn_17 rfl (lv_at hl 1 rfl) ?_
        refine lv_iload hx hb dX0_standingIn_18 (lv_at hl 4 rfl) ?_
        refine eg_callS (As := [.long v, .int (nI i)]) (rest := []) hx hb hml hown hts hK (c_X0_has l D cI cJ v i (by omega)) (va_cwS 2 hts gX0_standingIn_X0_has rfl rfl rfl (by decide +kernel) ⟨Nat.le_of_ble_eq_true rfl, Nat.le_of_ble_eq_true rfl⟩) rfl hl.1 rfl (Nat.le_of_ble_eq_true rfl) dX0_standingIn_20 ⟨Nat.zero_le _, Nat.zero_le _⟩ ?_
        refine eg_ifeq_b (tgt := 61) hx hb dX0_standingIn_23 (by decide) (fun c23 => ?_) (fun c23 => ?_)
        · refine lv_iinc (v := nI (i + 1)) (lv' := [(7, .int (nI (i + 1))), (0, .ref (q 0)), (1, .long v), (3, .long (sI lt v i)), (5, .long (sG lt tg v i))]) hx hb dX0_standingIn_61 hl (k := 4) rfl (eg_inc1 _) (by decide) rfl (fun ls hl => ?_)
          refine lv_goto (tgt := 8) hx hb dX0_standingIn_64 (by decide) ?_
          have eA0 : sI lt v (i + 1) = sI lt v i := by first | (simp [sI, c23, c32]; done) | (simp [sI, c23]; done)
          have eA1 : sG lt tg v (i + 1) = sG lt tg v i := by first | (rw [sG, if_pos ⟨c23, c32⟩, c54]; done) | (simp [sG, c23, c32]; done) | (simp [sG, c23]; done)
          exact ih (i + 1) _ (by omega) (by omega) (by rw [eA0, eA1]; exact lv_sub hl [1, 2, 3, 4, 0] rfl)
        · refine lv_aload_n hx hb dX0_standingIn_26 rfl (lv_at hl 0 rfl) ?_
          refine lv_iload hx hb dX0_standingIn_27 (lv_at hl 4 rfl) ?_
          refine eg_callV (As := [.int (nI i)]) (rest := []) hx hb hml hown hts hK hP (c_X0_isInsert l D cI cJ q n mk lt tg pa an la kn fb fh nb te wt bh i (by omega)) (cwV 1 hts gX0_standingIn_X0_isInsert rfl rfl rfl (by decide +kernel) ⟨Nat.le_of_ble_eq_true rfl, Nat.le_of_ble_eq_true rfl⟩) (va_recv hK hP (ci := 0) (q0 := 0) rfl rfl) rfl hl.1 rfl (Nat.le_of_ble_eq_true rfl) dX0_standingIn_29 ⟨Nat.zero_le _, Nat.zero_le _⟩ ?_
          refine eg_ifeq_b (tgt := 46) hx hb dX0_standingIn_32 (by decide) (fun c32 => ?_) (fun c32 => ?_)
          · refine lv_lload hx hb dX0_standingIn_46 (lv_at hl 3 rfl) ?_
            refine lv_aload_n hx hb dX0_standingIn_48 rfl (lv_at hl 0 rfl) ?_
            refine va_get (D := D) (ci := 0) (v := .ref (q 3)) (C := RX0) (T := TX0) (N := 14) hx hb hts hin hown hK hP 0 rfl rfl 3 (by decide) (hts (.fieldLink RX0 20 "EditGraph" "targets" "[I") (by decide +kernel)) (fun _ h9 => h9) rfl dX0_standingIn_49 ?_
            refine lv_iload hx hb dX0_standingIn_52 (lv_at hl 4 rfl) ?_
            refine eg_iald hx hb hK hP 3 0 rfl rfl (by omega) (by decide) dX0_standingIn_54 ?_
            obtain ⟨t54, ht54, c54⟩ := hdl i (by omega) c23 (ins_eq c32)
            rw [c54]
            have c54 : ol t54 = ol (cl (tg i)) := by rw [c54, cl_nI (by omega)]
            refine eg_callS (As := [.int (nI t54)]) (rest := [.long (sG lt tg v i)]) hx hb hml hown hts hK (c_X0_only l D cI cJ t54 (by omega)) (va_cwS 1 hts gX0_standingIn_X0_only rfl rfl rfl (by decide +kernel) ⟨Nat.le_of_ble_eq_true rfl, Nat.le_of_ble_eq_true rfl⟩) rfl hl.1 rfl (Nat.le_of_ble_eq_true rfl) dX0_standingIn_55 ⟨Nat.zero_le _, Nat.zero_le _⟩ ?_
            refine lv_lor hx hb dX0_standingIn_58 ?_
            refine lv_lstore (lv' := [(5, .long ((sG lt tg v i) ||| (ol t54))), (0, .ref (q 0)), (1, .long v), (3, .long (sI lt v i)), (7, .int (nI i))]) hx hb dX0_standingIn_59 hl (by decide) rfl (fun ls hl => ?_)
            refine lv_iinc (v := nI (i + 1)) (lv' := [(7, .int (nI (i + 1))), (5, .long ((sG lt tg v i) ||| (ol t54))), (0, .ref (q 0)), (1, .long v), (3, .long (sI lt v i))]) hx hb dX0_standingIn_61 hl (k := 4) rfl (eg_inc1 _) (by decide) rfl (fun ls hl => ?_)
            refine lv_goto (tgt := 8) hx hb dX0_standingIn_64 (by decide) ?_
            have eA0 : sI lt v (i + 1) = sI lt v i := by first | (simp [sI, c23, c32]; done) | (simp [sI, c23]; done)
            have eA1 : sG lt tg v (i + 1) = ((sG lt tg v i) ||| (ol t54)) := by first | (rw [sG, if_pos ⟨c23, c32⟩, c54]; done) | (simp [sG, c23, c32]; done) | (simp [sG, c23]; done)
            exact ih (i + 1) _ (by omega) (by omega) (by rw [eA0, eA1]; exact lv_sub hl [2, 3, 4, 1, 0] rfl)
          · refine lv_lload_n hx hb dX0_standingIn_35 rfl (lv_at hl 2 rfl) ?_
            refine lv_iload hx hb dX0_standingIn_36 (lv_at hl 4 rfl) ?_
            refine eg_callS (As := [.int (nI i)]) (rest := [.long (sI lt v i)]) hx hb hml hown hts hK (c_X0_only l D cI cJ i (by omega)) (va_cwS 1 hts gX0_standingIn_X0_only rfl rfl rfl (by decide +kernel) ⟨Nat.le_of_ble_eq_true rfl, Nat.le_of_ble_eq_true rfl⟩) rfl hl.1 rfl (Nat.le_of_ble_eq_true rfl) dX0_standingIn_38 ⟨Nat.zero_le _, Nat.zero_le _⟩ ?_
            refine lv_lor hx hb dX0_standingIn_41 ?_
            refine lv_lstore_n (lv' := [(3, .long ((sI lt v i) ||| (ol i))), (0, .ref (q 0)), (1, .long v), (5, .long (sG lt tg v i)), (7, .int (nI i))]) hx hb dX0_standingIn_42 rfl hl (by decide) rfl (fun ls hl => ?_)
            refine lv_goto (tgt := 61) hx hb dX0_standingIn_43 (by decide) ?_
            refine lv_iinc (v := nI (i + 1)) (lv' := [(7, .int (nI (i + 1))), (3, .long ((sI lt v i) ||| (ol i))), (0, .ref (q 0)), (1, .long v), (5, .long (sG lt tg v i))]) hx hb dX0_standingIn_61 hl (k := 4) rfl (eg_inc1 _) (by decide) rfl (fun ls hl => ?_)
            refine lv_goto (tgt := 8) hx hb dX0_standingIn_64 (by decide) ?_
            have eA0 : sI lt v (i + 1) = ((sI lt v i) ||| (ol i)) := by first | (simp [sI, c23, c32]; done) | (simp [sI, c23]; done)
            have eA1 : sG lt tg v (i + 1) = sG lt tg v i := by first | (rw [sG, if_pos ⟨c23, c32⟩, c54]; done) | (simp [sG, c23, c32]; done) | (simp [sG, c23]; done)
            exact ih (i + 1) _ (by omega) (by omega) (by rw [eA0, eA1]; exact lv_sub hl [2, 3, 1, 4, 0] rfl)
  refine lv_lconst (v := 0) hx hb dX0_standingIn_0 (by decide) ?_
  refine lv_lstore_n (lv' := [(3, .long 0), (0, .ref (q 0)), (1, .long v)]) hx hb dX0_standingIn_1 rfl hl (by decide) rfl (fun ls hl => ?_)
  refine lv_lconst (v := 0) hx hb dX0_standingIn_2 (by decide) ?_
  refine lv_lstore (lv' := [(5, .long 0), (3, .long 0), (0, .ref (q 0)), (1, .long v)]) hx hb dX0_standingIn_3 hl (by decide) rfl (fun ls hl => ?_)
  refine lv_iconst (v := nI 0) hx hb dX0_standingIn_5 (by decide +kernel) ?_
  refine lv_istore (lv' := [(7, .int (nI 0)), (5, .long 0), (3, .long 0), (0, .ref (q 0)), (1, .long v)]) hx hb dX0_standingIn_6 hl (by decide) rfl (fun ls hl => ?_)
  exact loop (n + 1) 0 _ (by omega) (by omega) (lv_sub hl [3, 4, 2, 1, 0] rfl)
set_option maxHeartbeats 4000000 in
set_option maxRecDepth 100000 in
theorem c_X0_continuesRun (l : Launch) (D : va_G) (cI cJ : ClassId) (q : Nat → Nat) (n : Nat) (mk lt tg : Nat → Int32) (pa an la kn : Nat → Int64) (fb : Int32) (fh nb te wt bh : Nat → Int32) (i : Nat) (hn : n ≤ 60) (hi : i < n) : eg_MR D (tyL cI cJ) l yX0_continuesRun wsX0_continuesRun ({ frames := 1, cells := 0, slots := 0, locals := 21 }) [.ref (q 0), .int (nI i)] (wX q cI cJ (nI n) mk lt tg pa an la kn fb fh nb te wt bh) (some (.int (eb (cR n mk lt tg pa i)))) := by
  refine Met.ofW (cc := cX0_continuesRun) (maxL := 3) (ret := (some .boolean)) (by decide) rfl ?_
  intro p e s m args below meth c s₁ B hml hv
  obtain ⟨rfl, hP, hK⟩ := hv
  have hx := B.exec
  have hb := B.bytes
  have hr := B.returns
  have hts := atoms_spec (ws := wsX0_continuesRun) B.pre
  have hown : s.vm.findClass RX0 = some m.cls := findClass_of_methodNamed B.named
  have hlocks := B.notSynchronized
  have hin : ∀ w ∈ u_ws RX0 TX0 14, w ∈ wsX0_continuesRun := by decide +kernel
  have hl := lv_entry ([.ref (q 0), .int (nI i)]) (n := 3) (Nat.le_of_ble_eq_true rfl)
  rw [lg_entry_eq]
  generalize (lg_sl ([.ref (q 0), .int (nI i)]) ++ List.replicate (3 - (lg_sl ([.ref (q 0), .int (nI i)])).length) Slot.unset).toArray = ls at hl ⊢
  have hl : lv_has ls 3 [(0, .ref (q 0)), (1, .int (nI i))] := hl
  refine lv_aload_n hx hb dX0_continuesRun_0 rfl (lv_at hl 0 rfl) ?_
  refine va_get (D := D) (ci := 0) (v := .ref (q 3)) (C := RX0) (T := TX0) (N := 14) hx hb hts hin hown hK hP 0 rfl rfl 3 (by decide) (hts (.fieldLink RX0 20 "EditGraph" "targets" "[I") (by decide +kernel)) (fun _ h9 => h9) rfl dX0_continuesRun_1 ?_
  refine lv_iload_n hx hb dX0_continuesRun_4 rfl (lv_at hl 1 rfl) ?_
  refine eg_iald hx hb hK hP 3 0 rfl rfl (by omega) (by decide) dX0_continuesRun_5 ?_
  refine lv_istore_n (lv' := [(2, .int (tg i)), (0, .ref (q 0)), (1, .int (nI i))]) hx hb dX0_continuesRun_6 rfl hl (by decide) rfl (fun ls hl => ?_)
  refine lv_aload_n hx hb dX0_continuesRun_7 rfl (lv_at hl 1 rfl) ?_
  refine lv_iload_n hx hb dX0_continuesRun_8 rfl (lv_at hl 2 rfl) ?_
  refine eg_callV (As := [.int (nI i)]) (rest := []) hx hb hml hown hts hK hP (c_X0_isInsert l D cI cJ q n mk lt tg pa an la kn fb fh nb te wt bh i (by omega)) (cwV 1 hts gX0_continuesRun_X0_isInsert rfl rfl rfl (by decide +kernel) ⟨Nat.le_of_ble_eq_true rfl, Nat.le_of_ble_eq_true rfl⟩) (va_recv hK hP (ci := 0) (q0 := 0) rfl rfl) rfl hl.1 rfl (Nat.le_of_ble_eq_true rfl) dX0_continuesRun_9 ⟨Nat.zero_le _, Nat.zero_le _⟩ ?_
  refine eg_ifeq_b (tgt := 56) hx hb dX0_continuesRun_12 (by decide) (fun c12 => ?_) (fun c12 => ?_)
  · refine lv_iconst (v := nI 0) hx hb dX0_continuesRun_56 (by decide +kernel) ?_
    exact W.zret hx hb hr rfl (fun t9 ht9 _ => ⟨congrArg (fun z => Outcome.returned (some (Value.int z))) (by first | (refine eb_z ?_; simp [cR, c12]; done) | (refine eb_z ?_; simp [cR, c12, c20]; done) | (refine eb_z ?_; rw [cR, c12, c20, eT, cl_nI (show t < 2 ^ 31 by omega)]; simp [c33]; done) | (refine eb_z ?_; rw [cR, c12, c20, eT, cl_nI (show t < 2 ^ 31 by omega)]; simp [c49]; done) | (refine eb_1 ?_; rw [cR, c12, c20, eT, cl_nI (show t < 2 ^ 31 by omega)]; simp [c33, c49]; done)), ht9⟩) (fun q h => nomatch h) dX0_continuesRun_57
  · refine lv_aload_n hx hb dX0_continuesRun_15 rfl (lv_at hl 1 rfl) ?_
    refine lv_iload_n hx hb dX0_continuesRun_16 rfl (lv_at hl 0 rfl) ?_
    refine eg_callV (As := [.int (tg i)]) (rest := []) hx hb hml hown hts hK hP (c_X0_isEvent l D cI cJ q n mk lt tg pa an la kn fb fh nb te wt bh (tg i) ) (cwV 1 hts gX0_continuesRun_X0_isEvent rfl rfl rfl (by decide +kernel) ⟨Nat.le_of_ble_eq_true rfl, Nat.le_of_ble_eq_true rfl⟩) (va_recv hK hP (ci := 0) (q0 := 0) rfl rfl) rfl hl.1 rfl (Nat.le_of_ble_eq_true rfl) dX0_continuesRun_17 ⟨Nat.zero_le _, Nat.zero_le _⟩ ?_
    refine eg_ifeq_b (tgt := 56) hx hb dX0_continuesRun_20 (by decide) (fun c20 => ?_) (fun c20 => ?_)
    · refine lv_iconst (v := nI 0) hx hb dX0_continuesRun_56 (by decide +kernel) ?_
      exact W.zret hx hb hr rfl (fun t9 ht9 _ => ⟨congrArg (fun z => Outcome.returned (some (Value.int z))) (by first | (refine eb_z ?_; simp [cR, c12]; done) | (refine eb_z ?_; simp [cR, c12, c20]; done) | (refine eb_z ?_; rw [cR, c12, c20, eT, cl_nI (show t < 2 ^ 31 by omega)]; simp [c33]; done) | (refine eb_z ?_; rw [cR, c12, c20, eT, cl_nI (show t < 2 ^ 31 by omega)]; simp [c49]; done) | (refine eb_1 ?_; rw [cR, c12, c20, eT, cl_nI (show t < 2 ^ 31 by omega)]; simp [c33, c49]; done)), ht9⟩) (fun q h => nomatch h) dX0_continuesRun_57
    · obtain ⟨t, htn, eT⟩ := ev_of (by omega) c20
      have hl : lv_has ls 3 [(2, .int (nI t)), (0, .ref (q 0)), (1, .int (nI i))] := by rw [← eT]; exact hl
      refine lv_aload_n hx hb dX0_continuesRun_23 rfl (lv_at hl 1 rfl) ?_
      refine va_get (D := D) (ci := 0) (v := .ref (q 4)) (C := RX0) (T := TX0) (N := 14) hx hb hts hin hown hK hP 0 rfl rfl 4 (by decide) (hts (.fieldLink RX0 23 "EditGraph" "parentSets" "[J") (by decide +kernel)) (fun _ h9 => h9) rfl dX0_continuesRun_24 ?_
      refine lv_iload_n hx hb dX0_continuesRun_27 rfl (lv_at hl 2 rfl) ?_
      refine eg_lald hx hb hK hP 4 1 rfl rfl (by omega) (by decide) dX0_continuesRun_28 ?_
      refine lv_iload_n hx hb dX0_continuesRun_29 rfl (lv_at hl 0 rfl) ?_
      refine eg_callS (As := [.int (nI t)]) (rest := [.long (pa i)]) hx hb hml hown hts hK (c_X0_only l D cI cJ t (by omega)) (va_cwS 1 hts gX0_continuesRun_X0_only rfl rfl rfl (by decide +kernel) ⟨Nat.le_of_ble_eq_true rfl, Nat.le_of_ble_eq_true rfl⟩) rfl hl.1 rfl (Nat.le_of_ble_eq_true rfl) dX0_continuesRun_30 ⟨Nat.zero_le _, Nat.zero_le _⟩ ?_
      refine eg_lcmp_ne (tgt := 56) hx hb dX0_continuesRun_33 rfl dX0_continuesRun_34 (by decide) (fun c33 => ?_) (fun c33 => ?_)
      · refine lv_iconst (v := nI 0) hx hb dX0_continuesRun_56 (by decide +kernel) ?_
        exact W.zret hx hb hr rfl (fun t9 ht9 _ => ⟨congrArg (fun z => Outcome.returned (some (Value.int z))) (by first | (refine eb_z ?_; simp [cR, c12]; done) | (refine eb_z ?_; simp [cR, c12, c20]; done) | (refine eb_z ?_; rw [cR, c12, c20, eT, cl_nI (show t < 2 ^ 31 by omega)]; simp [c33]; done) | (refine eb_z ?_; rw [cR, c12, c20, eT, cl_nI (show t < 2 ^ 31 by omega)]; simp [c49]; done) | (refine eb_1 ?_; rw [cR, c12, c20, eT, cl_nI (show t < 2 ^ 31 by omega)]; simp [c33, c49]; done)), ht9⟩) (fun q h => nomatch h) dX0_continuesRun_57
      · refine lv_aload_n hx hb dX0_continuesRun_37 rfl (lv_at hl 1 rfl) ?_
        refine va_get (D := D) (ci := 0) (v := .ref (q 1)) (C := RX0) (T := TX0) (N := 14) hx hb hts hin hown hK hP 0 rfl rfl 1 (by decide) (hts (.fieldLink RX0 13 "EditGraph" "makers" "[I") (by decide +kernel)) (fun _ h9 => h9) rfl dX0_continuesRun_38 ?_
        refine lv_iload_n hx hb dX0_continuesRun_41 rfl (lv_at hl 2 rfl) ?_
        refine eg_iald hx hb hK hP 1 0 rfl rfl (by omega) (by decide) dX0_continuesRun_42 ?_
        refine lv_aload_n hx hb dX0_continuesRun_43 rfl (lv_at hl 1 rfl) ?_
        refine va_get (D := D) (ci := 0) (v := .ref (q 1)) (C := RX0) (T := TX0) (N := 14) hx hb hts hin hown hK hP 0 rfl rfl 1 (by decide) (hts (.fieldLink RX0 13 "EditGraph" "makers" "[I") (by decide +kernel)) (fun _ h9 => h9) rfl dX0_continuesRun_44 ?_
        refine lv_iload_n hx hb dX0_continuesRun_47 rfl (lv_at hl 0 rfl) ?_
        refine eg_iald hx hb hK hP 1 0 rfl rfl (by omega) (by decide) dX0_continuesRun_48 ?_
        refine lv_icmp_ne (tgt := 56) hx hb dX0_continuesRun_49 (by decide) (fun c49 => ?_) (fun c49 => ?_)
        · refine lv_iconst (v := nI 0) hx hb dX0_continuesRun_56 (by decide +kernel) ?_
          exact W.zret hx hb hr rfl (fun t9 ht9 _ => ⟨congrArg (fun z => Outcome.returned (some (Value.int z))) (by first | (refine eb_z ?_; simp [cR, c12]; done) | (refine eb_z ?_; simp [cR, c12, c20]; done) | (refine eb_z ?_; rw [cR, c12, c20, eT, cl_nI (show t < 2 ^ 31 by omega)]; simp [c33]; done) | (refine eb_z ?_; rw [cR, c12, c20, eT, cl_nI (show t < 2 ^ 31 by omega)]; simp [c49]; done) | (refine eb_1 ?_; rw [cR, c12, c20, eT, cl_nI (show t < 2 ^ 31 by omega)]; simp [c33, c49]; done)), ht9⟩) (fun q h => nomatch h) dX0_continuesRun_57
        · refine lv_iconst (v := nI 1) hx hb dX0_continuesRun_52 (by decide +kernel) ?_
          refine lv_goto (tgt := 57) hx hb dX0_continuesRun_53 (by decide) ?_
          exact W.zret hx hb hr rfl (fun t9 ht9 _ => ⟨congrArg (fun z => Outcome.returned (some (Value.int z))) (by first | (refine eb_z ?_; simp [cR, c12]; done) | (refine eb_z ?_; simp [cR, c12, c20]; done) | (refine eb_z ?_; rw [cR, c12, c20, eT, cl_nI (show t < 2 ^ 31 by omega)]; simp [c33]; done) | (refine eb_z ?_; rw [cR, c12, c20, eT, cl_nI (show t < 2 ^ 31 by omega)]; simp [c49]; done) | (refine eb_1 ?_; rw [cR, c12, c20, eT, cl_nI (show t < 2 ^ 31 by omega)]; simp [c33, c49]; done)), ht9⟩) (fun q h => nomatch h) dX0_continuesRun_57
end
section
-- THE CLASS: its writers (by gen.py, specW.py)
set_option maxHeartbeats 4000000 in
set_option maxRecDepth 100000 in
theorem c_X0_markLater (l : Launch) (D : va_G) (cI cJ : ClassId) (q : Nat → Nat) (n : Nat) (mk lt tg : Nat → Int32) (pa an la kn : Nat → Int64) (fb : Int32) (fh nb te wt bh : Nat → Int32) (v : Int64) (j : Nat) (hn : n ≤ 60) (hj : j < 64) : eg_MW D (tyL cI cJ) l yX0_markLater wsX0_markLater ({ frames := 2, cells := 0, slots := 0, locals := 42 }) 0 0 [.ref (q 0), .long v, .int (nI j)] (wX q cI cJ (nI n) mk lt tg pa an la kn fb fh nb te wt bh) (fun r w1 => r = none ∧ w1 = wX q cI cJ (nI n) mk lt tg pa an (mL la v j n) kn fb fh nb te wt bh) := by
  refine Met.ofW (cc := cX0_markLater) (maxL := 5) (ret := none) (by decide) rfl ?_
  intro p e s m args below meth c s₁ B hml hv
  obtain ⟨rfl, hP, hK, hD0⟩ := hv
  have hx := B.exec
  have hb := B.bytes
  have hr := B.returns
  have hts := atoms_spec (ws := wsX0_markLater) B.pre
  have hown : s.vm.findClass RX0 = some m.cls := findClass_of_methodNamed B.named
  have hlocks := B.notSynchronized
  have hD := eg_D_of hD0
  have hS : va_S (eg_A (wX q cI cJ (nI n) mk lt tg pa an la kn fb fh nb te wt bh)) s.heap s.heap [] := va_S.rf
  have hin : ∀ w ∈ u_ws RX0 TX0 14, w ∈ wsX0_markLater := by decide +kernel
  have hl := lv_entry ([.ref (q 0), .long v, .int (nI j)]) (n := 5) (Nat.le_of_ble_eq_true rfl)
  rw [lg_entry_eq]
  generalize (lg_sl ([.ref (q 0), .long v, .int (nI j)]) ++ List.replicate (5 - (lg_sl ([.ref (q 0), .long v, .int (nI j)])).length) Slot.unset).toArray = ls at hl ⊢
  have hl : lv_has ls 5 [(0, .ref (q 0)), (1, .long v), (3, .int (nI j))] := hl
  generalize h0H : s.heap = H at hP ⊢
  have hS : va_S (eg_A (wX q cI cJ (nI n) mk lt tg pa an la kn fb fh nb te wt bh)) s.heap H [] := by rw [← h0H]; exact hS
  generalize ([] : List Loc) = locs at hS ⊢
  have loop : ∀ (f i : Nat) (H : Heap) (locs : List Loc) (ls : Array Slot), n < i + f → i ≤ n → va_P D vwCl (wX q cI cJ (nI n) mk lt tg pa an (mL la v j i) kn fb fh nb te wt bh) H → va_S (eg_A (wX q cI cJ (nI n) mk lt tg pa an la kn fb fh nb te wt bh)) s.heap H locs → lv_has ls 5 [(0, .ref (q 0)), (1, .long v), (3, .int (nI j)), (4, .int (nI i))] → W p l e (headSpec wsX0_markLater ({ frames := 2, cells := 0, slots := 0, locals := 42 })).room s m ([.ref (q 0), .long v, .int (nI j)] : List Value).toArray below meth c H locs 0 0 (MQ below (eg_Wq D (wX q cI cJ (nI n) mk lt tg pa an la kn fb fh nb te wt bh) (fun r w1 => r = none ∧ w1 = wX q cI cJ (nI n) mk lt tg pa an (mL la v j n) kn fb fh nb te wt bh)) ([.ref (q 0), .long v, .int (nI j)] : List Value).toArray s 0 0 (eg_A (wX q cI cJ (nI n) mk lt tg pa an la kn fb fh nb te wt bh))) (F0 m 3 ls []) := by
    intro f
    induction f with
    | zero => intro i  H locs ls h1 h2 hP hS hl; omega
    | succ f ih =>
      intro i  H locs ls h1 h2 hP hS hl
      refine lv_iload hx hb dX0_markLater_3 (lv_at hl 3 rfl) ?_
      refine lv_aload_n hx hb dX0_markLater_5 rfl (lv_at hl 0 rfl) ?_
      refine va_get (D := D) (ci := 0) (v := .int (nI n)) (C := RX0) (T := TX0) (N := 14) hx hb hts hin hown hK hP 0 rfl rfl 0 (by decide) (hts (.fieldLink RX0 7 "EditGraph" "eventCount" "I") (by decide +kernel)) (fun _ h9 => h9) rfl dX0_markLater_6 ?_
      refine eg_icmp_ge (tgt := 41) hx hb dX0_markLater_9 (by decide) (by omega) (by omega) (fun c9 => ?_) (fun c9 => ?_)
      · have ein : i = n := by omega
        rw [ein] at hP
        exact W.vret hx hb hr (fun t9 ht9 _ => ⟨none, (wX q cI cJ (nI n) mk lt tg pa an (mL la v j n) kn fb fh nb te wt bh), rfl, ⟨rfl, rfl⟩, rfl, by rw [ht9]; exact hP, hS.F ht9⟩) hS.2.2 dX0_markLater_41
      · refine lv_lload_n hx hb dX0_markLater_12 rfl (lv_at hl 1 rfl) ?_
        refine lv_iload hx hb dX0_markLater_13 (lv_at hl 3 rfl) ?_
        refine eg_callS (As := [.long v, .int (nI i)]) (rest := []) hx hb hml hown hts hK (c_X0_has l D cI cJ v i (by omega)) (va_cwS 2 hts gX0_markLater_X0_has rfl rfl rfl (by decide +kernel) ⟨Nat.le_of_ble_eq_true rfl, Nat.le_of_ble_eq_true rfl⟩) rfl hl.1 rfl (Nat.le_of_ble_eq_true rfl) dX0_markLater_15 ⟨Nat.zero_le _, Nat.zero_le _⟩ ?_
        refine eg_ifeq_b (tgt := 35) hx hb dX0_markLater_18 (by decide) (fun c18 => ?_) (fun c18 => ?_)
        · refine lv_iinc (v := nI (i + 1)) (lv' := [(4, .int (nI (i + 1))), (0, .ref (q 0)), (1, .long v), (3, .int (nI j))]) hx hb dX0_markLater_35 hl (k := 3) rfl (eg_inc1 _) (by decide) rfl (fun ls hl => ?_)
          refine lv_goto (tgt := 3) hx hb dX0_markLater_38 (by decide) ?_
          rw [mL_f c18] at hP
          exact ih (i + 1) H locs _ (by omega) (by omega) hP hS (lv_sub hl [1, 2, 3, 0] rfl)
        · refine lv_aload_n hx hb dX0_markLater_21 rfl (lv_at hl 0 rfl) ?_
          refine va_get (D := D) (ci := 0) (v := .ref (q 6)) (C := RX0) (T := TX0) (N := 14) hx hb hts hin hown hK hP 0 rfl rfl 6 (by decide) (hts (.fieldLink RX0 30 "EditGraph" "laterSets" "[J") (by decide +kernel)) (fun _ h9 => h9) rfl dX0_markLater_22 ?_
          refine lv_iload hx hb dX0_markLater_25 (lv_at hl 3 rfl) ?_
          refine lv_dup2_11 hx hb dX0_markLater_27 rfl rfl ?_
          refine eg_lald hx hb hK hP 6 1 rfl rfl (by omega) (by decide) dX0_markLater_28 ?_
          refine lv_iload_n hx hb dX0_markLater_29 rfl (lv_at hl 2 rfl) ?_
          refine eg_callS (As := [.int (nI j)]) (rest := [.long ((mL la v j i) i), .int (nI i), .ref (q 6)]) hx hb hml hown hts hK (c_X0_only l D cI cJ j hj) (va_cwS 1 hts gX0_markLater_X0_only rfl rfl rfl (by decide +kernel) ⟨Nat.le_of_ble_eq_true rfl, Nat.le_of_ble_eq_true rfl⟩) rfl hl.1 rfl (Nat.le_of_ble_eq_true rfl) dX0_markLater_30 ⟨Nat.zero_le _, Nat.zero_le _⟩ ?_
          refine lv_lor hx hb dX0_markLater_33 ?_
          refine eg_last hx hb hK hP hD rfl hS 6 1 rfl rfl (by omega) (by decide) dX0_markLater_34 (w' := wX q cI cJ (nI n) mk lt tg pa an (vp_updL (mL la v j i) i (((mL la v j i) i) ||| (ol j))) kn fb fh nb te wt bh) rfl (fun H locs hP hS => ?_)
          refine lv_iinc (v := nI (i + 1)) (lv' := [(4, .int (nI (i + 1))), (0, .ref (q 0)), (1, .long v), (3, .int (nI j))]) hx hb dX0_markLater_35 hl (k := 3) rfl (eg_inc1 _) (by decide) rfl (fun ls hl => ?_)
          refine lv_goto (tgt := 3) hx hb dX0_markLater_38 (by decide) ?_
          rw [mL_t c18] at hP
          exact ih (i + 1) H locs _ (by omega) (by omega) hP hS (lv_sub hl [1, 2, 3, 0] rfl)
  refine lv_iconst (v := nI 0) hx hb dX0_markLater_0 (by decide +kernel) ?_
  refine lv_istore (lv' := [(4, .int (nI 0)), (0, .ref (q 0)), (1, .long v), (3, .int (nI j))]) hx hb dX0_markLater_1 hl (by decide) rfl (fun ls hl => ?_)
  rw [← mL_0 la v j] at hP
  exact loop (n + 1) 0 H locs _ (by omega) (by omega) hP hS (lv_sub hl [1, 2, 3, 0] rfl)
set_option maxHeartbeats 4000000 in
set_option maxRecDepth 100000 in
theorem c_X0_addEvent (l : Launch) (D : va_G) (cI cJ : ClassId) (q : Nat → Nat) (n : Nat) (mk lt tg : Nat → Int32) (pa an la kn : Nat → Int64) (fb : Int32) (fh nb te wt bh : Nat → Int32) (a : Nat) (lc : Int32) (t : Int32) (hn : n < 60) (ha : a < 4) : eg_MW D (tyL cI cJ) l yX0_addEvent wsX0_addEvent ({ frames := 3, cells := 0, slots := 0, locals := 67 }) 0 0 [.ref (q 0), .int (nI a), .int lc, .int t] (wX q cI cJ (nI n) mk lt tg pa an la kn fb fh nb te wt bh) (fun r w1 => r = some (.int (nI n)) ∧ w1 = wX q cI cJ (nI (n + 1)) (upd mk n (nI a)) (upd lt n lc) (upd tg n t) (vp_updL pa n (hdX pa (kn a) n)) (vp_updL an n (kn a)) (mL la (kn a) n n) (vp_updL kn a (kn a ||| ol n)) fb fh nb te wt bh) := by
  refine Met.ofW (cc := cX0_addEvent) (maxL := 7) (ret := (some .int)) (by decide) rfl ?_
  intro p e s m args below meth c s₁ B hml hv
  obtain ⟨rfl, hP, hK, hD0⟩ := hv
  have hx := B.exec
  have hb := B.bytes
  have hr := B.returns
  have hts := atoms_spec (ws := wsX0_addEvent) B.pre
  have hown : s.vm.findClass RX0 = some m.cls := findClass_of_methodNamed B.named
  have hlocks := B.notSynchronized
  have hD := eg_D_of hD0
  have hS : va_S (eg_A (wX q cI cJ (nI n) mk lt tg pa an la kn fb fh nb te wt bh)) s.heap s.heap [] := va_S.rf
  have hin : ∀ w ∈ u_ws RX0 TX0 14, w ∈ wsX0_addEvent := by decide +kernel
  have hl := lv_entry ([.ref (q 0), .int (nI a), .int lc, .int t]) (n := 7) (Nat.le_of_ble_eq_true rfl)
  rw [lg_entry_eq]
  generalize (lg_sl ([.ref (q 0), .int (nI a), .int lc, .int t]) ++ List.replicate (7 - (lg_sl ([.ref (q 0), .int (nI a), .int lc, .int t])).length) Slot.unset).toArray = ls at hl ⊢
  have hl : lv_has ls 7 [(0, .ref (q 0)), (1, .int (nI a)), (2, .int lc), (3, .int t)] := hl
  generalize h0H : s.heap = H at hP ⊢
  have hS : va_S (eg_A (wX q cI cJ (nI n) mk lt tg pa an la kn fb fh nb te wt bh)) s.heap H [] := by rw [← h0H]; exact hS
  generalize ([] : List Loc) = locs at hS ⊢
  refine lv_aload_n hx hb dX0_addEvent_0 rfl (lv_at hl 0 rfl) ?_
  refine va_get (D := D) (ci := 0) (v := .int (nI n)) (C := RX0) (T := TX0) (N := 14) hx hb hts hin hown hK hP 0 rfl rfl 0 (by decide) (hts (.fieldLink RX0 7 "EditGraph" "eventCount" "I") (by decide +kernel)) (fun _ h9 => h9) rfl dX0_addEvent_1 ?_
  refine lv_istore (lv' := [(4, .int (nI n)), (0, .ref (q 0)), (1, .int (nI a)), (2, .int lc), (3, .int t)]) hx hb dX0_addEvent_4 hl (by decide) rfl (fun ls hl => ?_)
  refine lv_aload_n hx hb dX0_addEvent_6 rfl (lv_at hl 1 rfl) ?_
  refine va_get (D := D) (ci := 0) (v := .ref (q 7)) (C := RX0) (T := TX0) (N := 14) hx hb hts hin hown hK hP 0 rfl rfl 7 (by decide) (hts (.fieldLink RX0 33 "EditGraph" "knownSets" "[J") (by decide +kernel)) (fun _ h9 => h9) rfl dX0_addEvent_7 ?_
  refine lv_iload_n hx hb dX0_addEvent_10 rfl (lv_at hl 2 rfl) ?_
  refine eg_lald hx hb hK hP 7 1 rfl rfl (by omega) (by decide) dX0_addEvent_11 ?_
  refine lv_lstore (lv' := [(5, .long (kn a)), (4, .int (nI n)), (0, .ref (q 0)), (1, .int (nI a)), (2, .int lc), (3, .int t)]) hx hb dX0_addEvent_12 hl (by decide) rfl (fun ls hl => ?_)
  refine lv_aload_n hx hb dX0_addEvent_14 rfl (lv_at hl 2 rfl) ?_
  refine va_get (D := D) (ci := 0) (v := .ref (q 1)) (C := RX0) (T := TX0) (N := 14) hx hb hts hin hown hK hP 0 rfl rfl 1 (by decide) (hts (.fieldLink RX0 13 "EditGraph" "makers" "[I") (by decide +kernel)) (fun _ h9 => h9) rfl dX0_addEvent_15 ?_
  refine lv_iload hx hb dX0_addEvent_18 (lv_at hl 1 rfl) ?_
  refine lv_iload_n hx hb dX0_addEvent_20 rfl (lv_at hl 3 rfl) ?_
  refine eg_iast hx hb hK hP hD rfl hS 1 0 rfl rfl (by omega) (by decide) dX0_addEvent_21 (w' := wX q cI cJ (nI n) (upd mk n (nI a)) lt tg pa an la kn fb fh nb te wt bh) rfl (fun H locs hP hS => ?_)
  refine lv_aload_n hx hb dX0_addEvent_22 rfl (lv_at hl 2 rfl) ?_
  refine va_get (D := D) (ci := 0) (v := .ref (q 2)) (C := RX0) (T := TX0) (N := 14) hx hb hts hin hown hK hP 0 rfl rfl 2 (by decide) (hts (.fieldLink RX0 17 "EditGraph" "letters" "[I") (by decide +kernel)) (fun _ h9 => h9) rfl dX0_addEvent_23 ?_
  refine lv_iload hx hb dX0_addEvent_26 (lv_at hl 1 rfl) ?_
  refine lv_iload_n hx hb dX0_addEvent_28 rfl (lv_at hl 4 rfl) ?_
  refine eg_iast hx hb hK hP hD rfl hS 2 0 rfl rfl (by omega) (by decide) dX0_addEvent_29 (w' := wX q cI cJ (nI n) (upd mk n (nI a)) (upd lt n lc) tg pa an la kn fb fh nb te wt bh) rfl (fun H locs hP hS => ?_)
  refine lv_aload_n hx hb dX0_addEvent_30 rfl (lv_at hl 2 rfl) ?_
  refine va_get (D := D) (ci := 0) (v := .ref (q 3)) (C := RX0) (T := TX0) (N := 14) hx hb hts hin hown hK hP 0 rfl rfl 3 (by decide) (hts (.fieldLink RX0 20 "EditGraph" "targets" "[I") (by decide +kernel)) (fun _ h9 => h9) rfl dX0_addEvent_31 ?_
  refine lv_iload hx hb dX0_addEvent_34 (lv_at hl 1 rfl) ?_
  refine lv_iload_n hx hb dX0_addEvent_36 rfl (lv_at hl 5 rfl) ?_
  refine eg_iast hx hb hK hP hD rfl hS 3 0 rfl rfl (by omega) (by decide) dX0_addEvent_37 (w' := wX q cI cJ (nI n) (upd mk n (nI a)) (upd lt n lc) (upd tg n t) pa an la kn fb fh nb te wt bh) rfl (fun H locs hP hS => ?_)
  refine lv_aload_n hx hb dX0_addEvent_38 rfl (lv_at hl 2 rfl) ?_
  refine va_get (D := D) (ci := 0) (v := .ref (q 4)) (C := RX0) (T := TX0) (N := 14) hx hb hts hin hown hK hP 0 rfl rfl 4 (by decide) (hts (.fieldLink RX0 23 "EditGraph" "parentSets" "[J") (by decide +kernel)) (fun _ h9 => h9) rfl dX0_addEvent_39 ?_
  refine lv_iload hx hb dX0_addEvent_42 (lv_at hl 1 rfl) ?_
  refine lv_aload_n hx hb dX0_addEvent_44 rfl (lv_at hl 2 rfl) ?_
  refine lv_lload hx hb dX0_addEvent_45 (lv_at hl 0 rfl) ?_
  refine eg_callV (As := [.long (kn a)]) (rest := [.int (nI n), .ref (q 4)]) hx hb hml hown hts hK hP (c_X0_headsOf l D cI cJ q n (upd mk n (nI a)) (upd lt n lc) (upd tg n t) pa an la kn fb fh nb te wt bh (kn a) (by omega)) (cwV 1 hts gX0_addEvent_X0_headsOf rfl rfl rfl (by decide +kernel) ⟨Nat.le_of_ble_eq_true rfl, Nat.le_of_ble_eq_true rfl⟩) (va_recv hK hP (ci := 0) (q0 := 0) rfl rfl) rfl hl.1 rfl (Nat.le_of_ble_eq_true rfl) dX0_addEvent_47 ⟨Nat.zero_le _, Nat.zero_le _⟩ ?_
  refine eg_last hx hb hK hP hD rfl hS 4 1 rfl rfl (by omega) (by decide) dX0_addEvent_50 (w' := wX q cI cJ (nI n) (upd mk n (nI a)) (upd lt n lc) (upd tg n t) (vp_updL pa n (hdX pa (kn a) n)) an la kn fb fh nb te wt bh) rfl (fun H locs hP hS => ?_)
  refine lv_aload_n hx hb dX0_addEvent_51 rfl (lv_at hl 2 rfl) ?_
  refine va_get (D := D) (ci := 0) (v := .ref (q 5)) (C := RX0) (T := TX0) (N := 14) hx hb hts hin hown hK hP 0 rfl rfl 5 (by decide) (hts (.fieldLink RX0 27 "EditGraph" "ancestorSets" "[J") (by decide +kernel)) (fun _ h9 => h9) rfl dX0_addEvent_52 ?_
  refine lv_iload hx hb dX0_addEvent_55 (lv_at hl 1 rfl) ?_
  refine lv_lload hx hb dX0_addEvent_57 (lv_at hl 0 rfl) ?_
  refine eg_last hx hb hK hP hD rfl hS 5 1 rfl rfl (by omega) (by decide) dX0_addEvent_59 (w' := wX q cI cJ (nI n) (upd mk n (nI a)) (upd lt n lc) (upd tg n t) (vp_updL pa n (hdX pa (kn a) n)) (vp_updL an n (kn a)) la kn fb fh nb te wt bh) rfl (fun H locs hP hS => ?_)
  refine lv_aload_n hx hb dX0_addEvent_60 rfl (lv_at hl 2 rfl) ?_
  refine lv_lload hx hb dX0_addEvent_61 (lv_at hl 0 rfl) ?_
  refine lv_iload hx hb dX0_addEvent_63 (lv_at hl 1 rfl) ?_
  refine eg_callWV (As := [.long (kn a), .int (nI n)]) (rest := []) hx hb hml hown hts hK hP hD rfl hS (c_X0_markLater l D cI cJ q n (upd mk n (nI a)) (upd lt n lc) (upd tg n t) (vp_updL pa n (hdX pa (kn a) n)) (vp_updL an n (kn a)) la kn fb fh nb te wt bh (kn a) n (by omega) (by omega)) (cwV 2 hts gX0_addEvent_X0_markLater rfl rfl rfl (by decide +kernel) ⟨Nat.le_of_ble_eq_true rfl, Nat.le_of_ble_eq_true rfl⟩) (va_recv hK hP (ci := 0) (q0 := 0) rfl rfl) rfl hl.1 rfl (Nat.le_of_ble_eq_true rfl) dX0_addEvent_65 ⟨Nat.zero_le _, Nat.zero_le _⟩ (fun v9 w9 H locs hR9 hw9 hP hS => ?_)
  obtain ⟨rfl, rfl⟩ := hR9
  refine lv_aload_n hx hb dX0_addEvent_68 rfl (lv_at hl 2 rfl) ?_
  refine va_get (D := D) (ci := 0) (v := .ref (q 7)) (C := RX0) (T := TX0) (N := 14) hx hb hts hin hown hK hP 0 rfl rfl 7 (by decide) (hts (.fieldLink RX0 33 "EditGraph" "knownSets" "[J") (by decide +kernel)) (fun _ h9 => h9) rfl dX0_addEvent_69 ?_
  refine lv_iload_n hx hb dX0_addEvent_72 rfl (lv_at hl 3 rfl) ?_
  refine lv_lload hx hb dX0_addEvent_73 (lv_at hl 0 rfl) ?_
  refine lv_iload hx hb dX0_addEvent_75 (lv_at hl 1 rfl) ?_
  refine eg_callS (As := [.int (nI n)]) (rest := [.long (kn a), .int (nI a), .ref (q 7)]) hx hb hml hown hts hK (c_X0_only l D cI cJ n (by omega)) (va_cwS 1 hts gX0_addEvent_X0_only rfl rfl rfl (by decide +kernel) ⟨Nat.le_of_ble_eq_true rfl, Nat.le_of_ble_eq_true rfl⟩) rfl hl.1 rfl (Nat.le_of_ble_eq_true rfl) dX0_addEvent_77 ⟨Nat.zero_le _, Nat.zero_le _⟩ ?_
  refine lv_lor hx hb dX0_addEvent_80 ?_
  refine eg_last hx hb hK hP hD rfl hS 7 1 rfl rfl (by omega) (by decide) dX0_addEvent_81 (w' := wX q cI cJ (nI n) (upd mk n (nI a)) (upd lt n lc) (upd tg n t) (vp_updL pa n (hdX pa (kn a) n)) (vp_updL an n (kn a)) (mL la (kn a) n n) (vp_updL kn a ((kn a) ||| (ol n))) fb fh nb te wt bh) rfl (fun H locs hP hS => ?_)
  refine lv_aload_n hx hb dX0_addEvent_82 rfl (lv_at hl 2 rfl) ?_
  refine lv_dup hx hb dX0_addEvent_83 rfl ?_
  refine va_get (D := D) (ci := 0) (v := .int (nI n)) (C := RX0) (T := TX0) (N := 14) hx hb hts hin hown hK hP 0 rfl rfl 0 (by decide) (hts (.fieldLink RX0 7 "EditGraph" "eventCount" "I") (by decide +kernel)) (fun _ h9 => h9) rfl dX0_addEvent_84 ?_
  refine lv_iconst (v := nI 1) hx hb dX0_addEvent_87 (by decide +kernel) ?_
  refine eg_iadd hx hb dX0_addEvent_88 ?_
  refine va_put (D := D) (ci := 0) (v := .int (nI (n + 1))) (ty := .int) (C := RX0) (T := TX0) (N := 14) hx hb hts hin tyX0 tyX0_ok nmX0 hown hK hP (eg_D_same hD rfl) hS 0 rfl rfl 0 (by decide) (hts (.fieldLink RX0 7 "EditGraph" "eventCount" "I") (by decide +kernel)) (fun _ h9 => h9) rfl (by decide +kernel) rfl rfl (Nat.le_of_ble_eq_true rfl) dX0_addEvent_89 (fun H locs hP _ hS => ?_)
  have hP : va_P D vwCl (wX q cI cJ (nI (n + 1)) (upd mk n (nI a)) (upd lt n lc) (upd tg n t) (vp_updL pa n (hdX pa (kn a) n)) (vp_updL an n (kn a)) (mL la (kn a) n n) (vp_updL kn a ((kn a) ||| (ol n))) fb fh nb te wt bh) H := hP
  refine lv_iload hx hb dX0_addEvent_92 (lv_at hl 1 rfl) ?_
  exact W.iret hx hb hr (fun t9 ht9 _ => ⟨some (.int (nI n)), (wX q cI cJ (nI (n + 1)) (upd mk n (nI a)) (upd lt n lc) (upd tg n t) (vp_updL pa n (hdX pa (kn a) n)) (vp_updL an n (kn a)) (mL la (kn a) n n) (vp_updL kn a ((kn a) ||| (ol n))) fb fh nb te wt bh), rfl, ⟨rfl, rfl⟩, rfl, by rw [ht9]; exact hP, hS.F ht9⟩) hS.2.2 dX0_addEvent_94
set_option maxHeartbeats 4000000 in
set_option maxRecDepth 100000 in
theorem c_X0_hangLetter (l : Launch) (D : va_G) (cI cJ : ClassId) (q : Nat → Nat) (n : Nat) (mk lt tg : Nat → Int32) (pa an la kn : Nat → Int64) (fb : Int32) (fh nb te wt bh : Nat → Int32) (e0 : Nat) (h : Int32) (hn : n ≤ 60) (he : e0 < 60) : eg_MW D (tyL cI cJ) l yX0_hangLetter wsX0_hangLetter ({ frames := 1, cells := 0, slots := 0, locals := 21 }) 0 0 [.ref (q 0), .int (nI e0), .int h] (wX q cI cJ (nI n) mk lt tg pa an la kn fb fh nb te wt bh) (fun r w1 => r = none ∧ ((∃ t : Nat, t < n ∧ h = nI t ∧ w1 = wX q cI cJ (nI n) mk lt tg pa an la kn fb (upd (upd fh e0 (-1)) t (nI e0)) (upd nb e0 (upd fh e0 (-1) t)) te wt bh) ∨ (ev n h = false ∧ w1 = wX q cI cJ (nI n) mk lt tg pa an la kn (nI e0) (upd fh e0 (-1)) (upd nb e0 fb) te wt bh))) := by
  refine Met.ofW (cc := cX0_hangLetter) (maxL := 3) (ret := none) (by decide) rfl ?_
  intro p e s m args below meth c s₁ B hml hv
  obtain ⟨rfl, hP, hK, hD0⟩ := hv
  have hx := B.exec
  have hb := B.bytes
  have hr := B.returns
  have hts := atoms_spec (ws := wsX0_hangLetter) B.pre
  have hown : s.vm.findClass RX0 = some m.cls := findClass_of_methodNamed B.named
  have hlocks := B.notSynchronized
  have hD := eg_D_of hD0
  have hS : va_S (eg_A (wX q cI cJ (nI n) mk lt tg pa an la kn fb fh nb te wt bh)) s.heap s.heap [] := va_S.rf
  have hin : ∀ w ∈ u_ws RX0 TX0 14, w ∈ wsX0_hangLetter := by decide +kernel
  have hl := lv_entry ([.ref (q 0), .int (nI e0), .int h]) (n := 3) (Nat.le_of_ble_eq_true rfl)
  rw [lg_entry_eq]
  generalize (lg_sl ([.ref (q 0), .int (nI e0), .int h]) ++ List.replicate (3 - (lg_sl ([.ref (q 0), .int (nI e0), .int h])).length) Slot.unset).toArray = ls at hl ⊢
  have hl : lv_has ls 3 [(0, .ref (q 0)), (1, .int (nI e0)), (2, .int h)] := hl
  generalize h0H : s.heap = H at hP ⊢
  have hS : va_S (eg_A (wX q cI cJ (nI n) mk lt tg pa an la kn fb fh nb te wt bh)) s.heap H [] := by rw [← h0H]; exact hS
  generalize ([] : List Loc) = locs at hS ⊢
  refine lv_aload_n hx hb dX0_hangLetter_0 rfl (lv_at hl 0 rfl) ?_
  refine va_get (D := D) (ci := 0) (v := .ref (q 8)) (C := RX0) (T := TX0) (N := 14) hx hb hts hin hown hK hP 0 rfl rfl 9 (by decide) (hts (.fieldLink RX0 39 "EditGraph" "firstHanging" "[I") (by decide +kernel)) (fun _ h9 => h9) rfl dX0_hangLetter_1 ?_
  refine lv_iload_n hx hb dX0_hangLetter_4 rfl (lv_at hl 1 rfl) ?_
  refine lv_iconst (v := (-1)) hx hb dX0_hangLetter_5 (by decide +kernel) ?_
  refine eg_iast hx hb hK hP hD rfl hS 8 0 rfl rfl (by omega) (by decide) dX0_hangLetter_6 (w' := wX q cI cJ (nI n) mk lt tg pa an la kn fb (upd fh e0 (-1)) nb te wt bh) rfl (fun H locs hP hS => ?_)
  refine lv_aload_n hx hb dX0_hangLetter_7 rfl (lv_at hl 0 rfl) ?_
  refine lv_iload_n hx hb dX0_hangLetter_8 rfl (lv_at hl 2 rfl) ?_
  refine eg_callV (As := [.int h]) (rest := []) hx hb hml hown hts hK hP (c_X0_isEvent l D cI cJ q n mk lt tg pa an la kn fb (upd fh e0 (-1)) nb te wt bh h ) (cwV 1 hts gX0_hangLetter_X0_isEvent rfl rfl rfl (by decide +kernel) ⟨Nat.le_of_ble_eq_true rfl, Nat.le_of_ble_eq_true rfl⟩) (va_recv hK hP (ci := 0) (q0 := 0) rfl rfl) rfl hl.1 rfl (Nat.le_of_ble_eq_true rfl) dX0_hangLetter_9 ⟨Nat.zero_le _, Nat.zero_le _⟩ ?_
  refine eg_ifeq_b (tgt := 37) hx hb dX0_hangLetter_12 (by decide) (fun c12 => ?_) (fun c12 => ?_)
  · refine lv_aload_n hx hb dX0_hangLetter_37 rfl (lv_at hl 0 rfl) ?_
    refine va_get (D := D) (ci := 0) (v := .ref (q 9)) (C := RX0) (T := TX0) (N := 14) hx hb hts hin hown hK hP 0 rfl rfl 10 (by decide) (hts (.fieldLink RX0 42 "EditGraph" "nextBeside" "[I") (by decide +kernel)) (fun _ h9 => h9) rfl dX0_hangLetter_38 ?_
    refine lv_iload_n hx hb dX0_hangLetter_41 rfl (lv_at hl 1 rfl) ?_
    refine lv_aload_n hx hb dX0_hangLetter_42 rfl (lv_at hl 0 rfl) ?_
    refine va_get (D := D) (ci := 0) (v := .int fb) (C := RX0) (T := TX0) (N := 14) hx hb hts hin hown hK hP 0 rfl rfl 8 (by decide) (hts (.fieldLink RX0 36 "EditGraph" "firstAtBeginning" "I") (by decide +kernel)) (fun _ h9 => h9) rfl dX0_hangLetter_43 ?_
    refine eg_iast hx hb hK hP hD rfl hS 9 0 rfl rfl (by omega) (by decide) dX0_hangLetter_46 (w' := wX q cI cJ (nI n) mk lt tg pa an la kn fb (upd fh e0 (-1)) (upd nb e0 fb) te wt bh) rfl (fun H locs hP hS => ?_)
    refine lv_aload_n hx hb dX0_hangLetter_47 rfl (lv_at hl 0 rfl) ?_
    refine lv_iload_n hx hb dX0_hangLetter_48 rfl (lv_at hl 1 rfl) ?_
    refine va_put (D := D) (ci := 0) (v := .int (nI e0)) (ty := .int) (C := RX0) (T := TX0) (N := 14) hx hb hts hin tyX0 tyX0_ok nmX0 hown hK hP (eg_D_same hD rfl) hS 0 rfl rfl 8 (by decide) (hts (.fieldLink RX0 36 "EditGraph" "firstAtBeginning" "I") (by decide +kernel)) (fun _ h9 => h9) rfl (by decide +kernel) rfl rfl (Nat.le_of_ble_eq_true rfl) dX0_hangLetter_49 (fun H locs hP _ hS => ?_)
    have hP : va_P D vwCl (wX q cI cJ (nI n) mk lt tg pa an la kn (nI e0) (upd fh e0 (-1)) (upd nb e0 fb) te wt bh) H := hP
    exact W.vret hx hb hr (fun t9 ht9 _ => ⟨none, (wX q cI cJ (nI n) mk lt tg pa an la kn (nI e0) (upd fh e0 (-1)) (upd nb e0 fb) te wt bh), rfl, ⟨rfl, Or.inr ⟨c12, rfl⟩⟩, rfl, by rw [ht9]; exact hP, hS.F ht9⟩) hS.2.2 dX0_hangLetter_52
  · obtain ⟨t, htn, eT⟩ := ev_of (by omega) c12
    have hl : lv_has ls 3 [(0, .ref (q 0)), (1, .int (nI e0)), (2, .int (nI t))] := by rw [← eT]; exact hl
    refine lv_aload_n hx hb dX0_hangLetter_15 rfl (lv_at hl 0 rfl) ?_
    refine va_get (D := D) (ci := 0) (v := .ref (q 9)) (C := RX0) (T := TX0) (N := 14) hx hb hts hin hown hK hP 0 rfl rfl 10 (by decide) (hts (.fieldLink RX0 42 "EditGraph" "nextBeside" "[I") (by decide +kernel)) (fun _ h9 => h9) rfl dX0_hangLetter_16 ?_
    refine lv_iload_n hx hb dX0_hangLetter_19 rfl (lv_at hl 1 rfl) ?_
    refine lv_aload_n hx hb dX0_hangLetter_20 rfl (lv_at hl 0 rfl) ?_
    refine va_get (D := D) (ci := 0) (v := .ref (q 8)) (C := RX0) (T := TX0) (N := 14) hx hb hts hin hown hK hP 0 rfl rfl 9 (by decide) (hts (.fieldLink RX0 39 "EditGraph" "firstHanging" "[I") (by decide +kernel)) (fun _ h9 => h9) rfl dX0_hangLetter_21 ?_
    refine lv_iload_n hx hb dX0_hangLetter_24 rfl (lv_at hl 2 rfl) ?_
    refine eg_iald hx hb hK hP 8 0 rfl rfl (by omega) (by decide) dX0_hangLetter_25 ?_
    refine eg_iast hx hb hK hP hD rfl hS 9 0 rfl rfl (by omega) (by decide) dX0_hangLetter_26 (w' := wX q cI cJ (nI n) mk lt tg pa an la kn fb (upd fh e0 (-1)) (upd nb e0 ((upd fh e0 (-1)) t)) te wt bh) rfl (fun H locs hP hS => ?_)
    refine lv_aload_n hx hb dX0_hangLetter_27 rfl (lv_at hl 0 rfl) ?_
    refine va_get (D := D) (ci := 0) (v := .ref (q 8)) (C := RX0) (T := TX0) (N := 14) hx hb hts hin hown hK hP 0 rfl rfl 9 (by decide) (hts (.fieldLink RX0 39 "EditGraph" "firstHanging" "[I") (by decide +kernel)) (fun _ h9 => h9) rfl dX0_hangLetter_28 ?_
    refine lv_iload_n hx hb dX0_hangLetter_31 rfl (lv_at hl 2 rfl) ?_
    refine lv_iload_n hx hb dX0_hangLetter_32 rfl (lv_at hl 1 rfl) ?_
    refine eg_iast hx hb hK hP hD rfl hS 8 0 rfl rfl (by omega) (by decide) dX0_hangLetter_33 (w' := wX q cI cJ (nI n) mk lt tg pa an la kn fb (upd (upd fh e0 (-1)) t (nI e0)) (upd nb e0 ((upd fh e0 (-1)) t)) te wt bh) rfl (fun H locs hP hS => ?_)
    refine lv_goto (tgt := 52) hx hb dX0_hangLetter_34 (by decide) ?_
    exact W.vret hx hb hr (fun t9 ht9 _ => ⟨none, (wX q cI cJ (nI n) mk lt tg pa an la kn fb (upd (upd fh e0 (-1)) t (nI e0)) (upd nb e0 ((upd fh e0 (-1)) t)) te wt bh), rfl, ⟨rfl, Or.inl ⟨t, htn, eT, rfl⟩⟩, rfl, by rw [ht9]; exact hP, hS.F ht9⟩) hS.2.2 dX0_hangLetter_52
set_option maxHeartbeats 4000000 in
set_option maxRecDepth 100000 in
theorem c_X0_putWaiting (l : Launch) (D : va_G) (cI cJ : ClassId) (q : Nat → Nat) (n : Nat) (mk lt tg : Nat → Int32) (pa an la kn : Nat → Int64) (fb : Int32) (fh nb te wt bh : Nat → Int32) (x : Int32) (k : Nat) (hn : n ≤ 60) (hk : k ≤ 60) : eg_MW D (tyL cI cJ) l yX0_putWaiting wsX0_putWaiting ({ frames := 1, cells := 0, slots := 0, locals := 21 }) 0 0 [.ref (q 0), .int x, .int (nI k)] (wX q cI cJ (nI n) mk lt tg pa an la kn fb fh nb te wt bh) (fun r w1 => (ev n x = true ∧ k < 60 ∧ r = some (.int (nI (k + 1))) ∧ w1 = wX q cI cJ (nI n) mk lt tg pa an la kn fb fh nb te (upd wt k x) bh) ∨ ((ev n x = false ∨ 60 ≤ k) ∧ r = some (.int (nI k)) ∧ w1 = wX q cI cJ (nI n) mk lt tg pa an la kn fb fh nb te wt bh)) := by
  refine Met.ofW (cc := cX0_putWaiting) (maxL := 3) (ret := (some .int)) (by decide) rfl ?_
  intro p e s m args below meth c s₁ B hml hv
  obtain ⟨rfl, hP, hK, hD0⟩ := hv
  have hx := B.exec
  have hb := B.bytes
  have hr := B.returns
  have hts := atoms_spec (ws := wsX0_putWaiting) B.pre
  have hown : s.vm.findClass RX0 = some m.cls := findClass_of_methodNamed B.named
  have hlocks := B.notSynchronized
  have hD := eg_D_of hD0
  have hS : va_S (eg_A (wX q cI cJ (nI n) mk lt tg pa an la kn fb fh nb te wt bh)) s.heap s.heap [] := va_S.rf
  have hin : ∀ w ∈ u_ws RX0 TX0 14, w ∈ wsX0_putWaiting := by decide +kernel
  have hl := lv_entry ([.ref (q 0), .int x, .int (nI k)]) (n := 3) (Nat.le_of_ble_eq_true rfl)
  rw [lg_entry_eq]
  generalize (lg_sl ([.ref (q 0), .int x, .int (nI k)]) ++ List.replicate (3 - (lg_sl ([.ref (q 0), .int x, .int (nI k)])).length) Slot.unset).toArray = ls at hl ⊢
  have hl : lv_has ls 3 [(0, .ref (q 0)), (1, .int x), (2, .int (nI k))] := hl
  generalize h0H : s.heap = H at hP ⊢
  have hS : va_S (eg_A (wX q cI cJ (nI n) mk lt tg pa an la kn fb fh nb te wt bh)) s.heap H [] := by rw [← h0H]; exact hS
  generalize ([] : List Loc) = locs at hS ⊢
  refine lv_aload_n hx hb dX0_putWaiting_0 rfl (lv_at hl 0 rfl) ?_
  refine lv_iload_n hx hb dX0_putWaiting_1 rfl (lv_at hl 1 rfl) ?_
  refine eg_callV (As := [.int x]) (rest := []) hx hb hml hown hts hK hP (c_X0_isEvent l D cI cJ q n mk lt tg pa an la kn fb fh nb te wt bh x ) (cwV 1 hts gX0_putWaiting_X0_isEvent rfl rfl rfl (by decide +kernel) ⟨Nat.le_of_ble_eq_true rfl, Nat.le_of_ble_eq_true rfl⟩) (va_recv hK hP (ci := 0) (q0 := 0) rfl rfl) rfl hl.1 rfl (Nat.le_of_ble_eq_true rfl) dX0_putWaiting_2 ⟨Nat.zero_le _, Nat.zero_le _⟩ ?_
  refine eg_ifeq_b (tgt := 14) hx hb dX0_putWaiting_5 (by decide) (fun c5 => ?_) (fun c5 => ?_)
  · refine lv_iload_n hx hb dX0_putWaiting_14 rfl (lv_at hl 2 rfl) ?_
    exact W.iret hx hb hr (fun t9 ht9 _ => ⟨some (.int (nI k)), (wX q cI cJ (nI n) mk lt tg pa an la kn fb fh nb te wt bh), rfl, Or.inr ⟨by first | exact Or.inl c5 | exact Or.inr c11, rfl, rfl⟩, rfl, by rw [ht9]; exact hP, hS.F ht9⟩) hS.2.2 dX0_putWaiting_15
  · refine lv_iload_n hx hb dX0_putWaiting_8 rfl (lv_at hl 2 rfl) ?_
    refine lv_bipush (v := nI 60) hx hb dX0_putWaiting_9 (by decide +kernel) ?_
    refine eg_icmp_lt (tgt := 16) hx hb dX0_putWaiting_11 (by decide) (by omega) (by omega) (fun c11 => ?_) (fun c11 => ?_)
    · refine lv_aload_n hx hb dX0_putWaiting_16 rfl (lv_at hl 0 rfl) ?_
      refine va_get (D := D) (ci := 0) (v := .ref (q 11)) (C := RX0) (T := TX0) (N := 14) hx hb hts hin hown hK hP 0 rfl rfl 12 (by decide) (hts (.fieldLink RX0 48 "EditGraph" "waiting" "[I") (by decide +kernel)) (fun _ h9 => h9) rfl dX0_putWaiting_17 ?_
      refine lv_iload_n hx hb dX0_putWaiting_20 rfl (lv_at hl 2 rfl) ?_
      refine lv_iload_n hx hb dX0_putWaiting_21 rfl (lv_at hl 1 rfl) ?_
      refine eg_iast hx hb hK hP hD rfl hS 11 0 rfl rfl (by omega) (by decide) dX0_putWaiting_22 (w' := wX q cI cJ (nI n) mk lt tg pa an la kn fb fh nb te (upd wt k x) bh) rfl (fun H locs hP hS => ?_)
      refine lv_iload_n hx hb dX0_putWaiting_23 rfl (lv_at hl 2 rfl) ?_
      refine lv_iconst (v := nI 1) hx hb dX0_putWaiting_24 (by decide +kernel) ?_
      refine eg_iadd hx hb dX0_putWaiting_25 ?_
      exact W.iret hx hb hr (fun t9 ht9 _ => ⟨some (.int (nI (k + 1))), (wX q cI cJ (nI n) mk lt tg pa an la kn fb fh nb te (upd wt k x) bh), rfl, Or.inl ⟨c5, c11, rfl, rfl⟩, rfl, by rw [ht9]; exact hP, hS.F ht9⟩) hS.2.2 dX0_putWaiting_26
    · refine lv_iload_n hx hb dX0_putWaiting_14 rfl (lv_at hl 2 rfl) ?_
      exact W.iret hx hb hr (fun t9 ht9 _ => ⟨some (.int (nI k)), (wX q cI cJ (nI n) mk lt tg pa an la kn fb fh nb te wt bh), rfl, Or.inr ⟨by first | exact Or.inl c5 | exact Or.inr c11, rfl, rfl⟩, rfl, by rw [ht9]; exact hP, hS.F ht9⟩) hS.2.2 dX0_putWaiting_15
set_option maxHeartbeats 4000000 in
set_option maxRecDepth 100000 in
theorem c_X0_putText (l : Launch) (D : va_G) (cI cJ : ClassId) (q : Nat → Nat) (n : Nat) (mk lt tg : Nat → Int32) (pa an la kn : Nat → Int64) (fb : Int32) (fh nb te wt bh : Nat → Int32) (z : Int64) (e0 : Nat) (k : Nat) (he : e0 < 60) (hk : k ≤ 60) : eg_MW D (tyL cI cJ) l yX0_putText wsX0_putText ({ frames := 2, cells := 0, slots := 0, locals := 42 }) 0 0 [.ref (q 0), .long z, .int (nI e0), .int (nI k)] (wX q cI cJ (nI n) mk lt tg pa an la kn fb fh nb te wt bh) (fun r w1 => (bi z e0 = true ∧ k < 60 ∧ r = some (.int (nI (k + 1))) ∧ w1 = wX q cI cJ (nI n) mk lt tg pa an la kn fb fh nb (upd te k (nI e0)) wt bh) ∨ ((bi z e0 = false ∨ 60 ≤ k) ∧ r = some (.int (nI k)) ∧ w1 = wX q cI cJ (nI n) mk lt tg pa an la kn fb fh nb te wt bh)) := by
  refine Met.ofW (cc := cX0_putText) (maxL := 5) (ret := (some .int)) (by decide) rfl ?_
  intro p e s m args below meth c s₁ B hml hv
  obtain ⟨rfl, hP, hK, hD0⟩ := hv
  have hx := B.exec
  have hb := B.bytes
  have hr := B.returns
  have hts := atoms_spec (ws := wsX0_putText) B.pre
  have hown : s.vm.findClass RX0 = some m.cls := findClass_of_methodNamed B.named
  have hlocks := B.notSynchronized
  have hD := eg_D_of hD0
  have hS : va_S (eg_A (wX q cI cJ (nI n) mk lt tg pa an la kn fb fh nb te wt bh)) s.heap s.heap [] := va_S.rf
  have hin : ∀ w ∈ u_ws RX0 TX0 14, w ∈ wsX0_putText := by decide +kernel
  have hl := lv_entry ([.ref (q 0), .long z, .int (nI e0), .int (nI k)]) (n := 5) (Nat.le_of_ble_eq_true rfl)
  rw [lg_entry_eq]
  generalize (lg_sl ([.ref (q 0), .long z, .int (nI e0), .int (nI k)]) ++ List.replicate (5 - (lg_sl ([.ref (q 0), .long z, .int (nI e0), .int (nI k)])).length) Slot.unset).toArray = ls at hl ⊢
  have hl : lv_has ls 5 [(0, .ref (q 0)), (1, .long z), (3, .int (nI e0)), (4, .int (nI k))] := hl
  generalize h0H : s.heap = H at hP ⊢
  have hS : va_S (eg_A (wX q cI cJ (nI n) mk lt tg pa an la kn fb fh nb te wt bh)) s.heap H [] := by rw [← h0H]; exact hS
  generalize ([] : List Loc) = locs at hS ⊢
  refine lv_lload_n hx hb dX0_putText_0 rfl (lv_at hl 1 rfl) ?_
  refine lv_iload_n hx hb dX0_putText_1 rfl (lv_at hl 2 rfl) ?_
  refine eg_callS (As := [.long z, .int (nI e0)]) (rest := []) hx hb hml hown hts hK (c_X0_has l D cI cJ z e0 (by omega)) (va_cwS 2 hts gX0_putText_X0_has rfl rfl rfl (by decide +kernel) ⟨Nat.le_of_ble_eq_true rfl, Nat.le_of_ble_eq_true rfl⟩) rfl hl.1 rfl (Nat.le_of_ble_eq_true rfl) dX0_putText_2 ⟨Nat.zero_le _, Nat.zero_le _⟩ ?_
  refine eg_ifeq_b (tgt := 15) hx hb dX0_putText_5 (by decide) (fun c5 => ?_) (fun c5 => ?_)
  · refine lv_iload hx hb dX0_putText_15 (lv_at hl 3 rfl) ?_
    exact W.iret hx hb hr (fun t9 ht9 _ => ⟨some (.int (nI k)), (wX q cI cJ (nI n) mk lt tg pa an la kn fb fh nb te wt bh), rfl, Or.inr ⟨by first | exact Or.inl c5 | exact Or.inr c12, rfl, rfl⟩, rfl, by rw [ht9]; exact hP, hS.F ht9⟩) hS.2.2 dX0_putText_17
  · refine lv_iload hx hb dX0_putText_8 (lv_at hl 3 rfl) ?_
    refine lv_bipush (v := nI 60) hx hb dX0_putText_10 (by decide +kernel) ?_
    refine eg_icmp_lt (tgt := 18) hx hb dX0_putText_12 (by decide) (by omega) (by omega) (fun c12 => ?_) (fun c12 => ?_)
    · refine lv_aload_n hx hb dX0_putText_18 rfl (lv_at hl 0 rfl) ?_
      refine va_get (D := D) (ci := 0) (v := .ref (q 10)) (C := RX0) (T := TX0) (N := 14) hx hb hts hin hown hK hP 0 rfl rfl 11 (by decide) (hts (.fieldLink RX0 45 "EditGraph" "textEvents" "[I") (by decide +kernel)) (fun _ h9 => h9) rfl dX0_putText_19 ?_
      refine lv_iload hx hb dX0_putText_22 (lv_at hl 3 rfl) ?_
      refine lv_iload_n hx hb dX0_putText_24 rfl (lv_at hl 2 rfl) ?_
      refine eg_iast hx hb hK hP hD rfl hS 10 0 rfl rfl (by omega) (by decide) dX0_putText_25 (w' := wX q cI cJ (nI n) mk lt tg pa an la kn fb fh nb (upd te k (nI e0)) wt bh) rfl (fun H locs hP hS => ?_)
      refine lv_iload hx hb dX0_putText_26 (lv_at hl 3 rfl) ?_
      refine lv_iconst (v := nI 1) hx hb dX0_putText_28 (by decide +kernel) ?_
      refine eg_iadd hx hb dX0_putText_29 ?_
      exact W.iret hx hb hr (fun t9 ht9 _ => ⟨some (.int (nI (k + 1))), (wX q cI cJ (nI n) mk lt tg pa an la kn fb fh nb (upd te k (nI e0)) wt bh), rfl, Or.inl ⟨c5, c12, rfl, rfl⟩, rfl, by rw [ht9]; exact hP, hS.F ht9⟩) hS.2.2 dX0_putText_30
    · refine lv_iload hx hb dX0_putText_15 (lv_at hl 3 rfl) ?_
      exact W.iret hx hb hr (fun t9 ht9 _ => ⟨some (.int (nI k)), (wX q cI cJ (nI n) mk lt tg pa an la kn fb fh nb te wt bh), rfl, Or.inr ⟨by first | exact Or.inl c5 | exact Or.inr c12, rfl, rfl⟩, rfl, by rw [ht9]; exact hP, hS.F ht9⟩) hS.2.2 dX0_putText_17
end
section
-- HOW MANY BITS ARE SET: the JDK's way, byte by byte
def un (x : Int64) : Nat := x.toBitVec.toNat
theorem un_lt (x : Int64) : un x < 18446744073709551616 := x.toBitVec.isLt
theorem un_inj {x y : Int64} (h : un x = un y) : x = y := Int64.toBitVec_inj.mp (BitVec.eq_of_toNat_eq h)
theorem un_add (x y : Int64) : un (x + y) = (un x + un y) % 18446744073709551616 := by
  show (x + y).toBitVec.toNat = _
  rw [Int64.toBitVec_add, BitVec.toNat_add]; rfl
theorem un_sub {x y : Int64} (h : un y ≤ un x) : un (x - y) = un x - un y := by
  show (x - y).toBitVec.toNat = _
  rw [Int64.toBitVec_sub, BitVec.toNat_sub]
  have h1 := un_lt x
  have h2 := un_lt y
  unfold un at *
  omega
theorem un_and (x y : Int64) : un (x &&& y) = un x &&& un y := by
  show (x &&& y).toBitVec.toNat = _
  rw [Int64.toBitVec_and, BitVec.toNat_and]; rfl
theorem un_shr (x : Int64) {k : Nat} (hk : k < 64) : un ((x.toUInt64 >>> ((nI k).toInt64.toUInt64 &&& Int64.toUInt64 63)).toInt64) = un x / 2 ^ k := by
  have h9 : (((nI k).toInt64.toUInt64 &&& Int64.toUInt64 63).toBitVec % 64).toNat = k := by
    rw [BitVec.toNat_umod]
    have := sh_c k hk
    rw [← UInt64.toNat_toBitVec] at this
    rw [this]
    exact Nat.mod_eq_of_lt hk
  show ((x.toUInt64 >>> ((nI k).toInt64.toUInt64 &&& Int64.toUInt64 63)).toInt64).toBitVec.toNat = _
  simp only [UInt64.toBitVec_toInt64, UInt64.toBitVec_shiftRight, Int64.toBitVec_toUInt64]
  rw [BitVec.ushiftRight_eq', BitVec.toNat_ushiftRight, h9, Nat.shiftRight_eq_div_pow]
  rfl
theorem land256 {a b x y : Nat} (ha : a < 256) (hb : b < 256) : (a + 256 * x) &&& (b + 256 * y) = (a &&& b) + 256 * (x &&& y) := by
  have hab : a &&& b < 2 ^ 8 := Nat.and_lt_two_pow a (by omega)
  apply Nat.eq_of_testBit_eq
  intro j
  rw [Nat.testBit_and, Nat.add_comm a, Nat.add_comm b, Nat.add_comm (a &&& b)]
  have e1 := Nat.testBit_two_pow_mul_add x (show a < 2 ^ 8 by omega) j
  have e2 := Nat.testBit_two_pow_mul_add y (show b < 2 ^ 8 by omega) j
  have e3 := Nat.testBit_two_pow_mul_add (x &&& y) hab j
  rw [show (2 : Nat) ^ 8 = 256 from rfl] at e1 e2 e3
  rw [e1, e2, e3]
  split
  · rw [Nat.testBit_and]
  · rw [Nat.testBit_and]
def msk (c : Nat) : Nat → Nat
  | 0 => 0
  | k + 1 => c + 256 * msk c k
def bmap (f : Nat → Nat) : Nat → Nat → Nat
  | 0, _ => 0
  | k + 1, N => f (N % 256) + 256 * bmap f k (N / 256)
def bf1 (b : Nat) : Nat := b - ((b / 2) &&& 85)
def bf2 (b : Nat) : Nat := (b &&& 51) + ((b / 4) &&& 51)
def bf3 (b : Nat) : Nat := (b + b / 16) % 16
theorem bd1 : ∀ b, b < 256 → ∀ c, c < 2 → (b / 2 + 128 * c) &&& 85 = (b / 2) &&& 85 := by decide +kernel
theorem bd2 : ∀ b, b < 256 → ∀ c, c < 4 → (b / 4 + 64 * c) &&& 51 = (b / 4) &&& 51 := by decide +kernel
theorem bd3 : ∀ b, b < 256 → bf2 (bf1 b) < 256 ∧ bf2 (bf1 b) % 16 ≤ 6 ∧ bf2 (bf1 b) / 16 ≤ 6 := by decide +kernel
theorem bd4 : ∀ b, b < 256 → bf3 (bf2 (bf1 b)) = ct (fun i => b.testBit i) 8 := by decide +kernel
theorem bd5 : ∀ b, b < 256 → bf3 (bf2 (bf1 b)) ≤ 8 := by decide +kernel
theorem bd6 : ∀ b, b < 256 → bf1 b < 256 := by decide +kernel
theorem bl1 : ∀ (k N : Nat), N < 256 ^ k → N - ((N / 2) &&& msk 85 k) = bmap bf1 k N
  | 0, N, h => by simp at h; subst h; rfl
  | k + 1, N, h => by
    have ih := bl1 k (N / 256) (by rw [Nat.pow_succ] at h; omega)
    have e1 : N / 2 = (N % 256 / 2 + 128 * (N / 256 % 2)) + 256 * (N / 256 / 2) := by omega
    rw [msk, bmap, e1, land256 (by omega) (by omega), bd1 _ (by omega) _ (by omega), ← ih, bf1]
    have h1 : (N % 256 / 2) &&& 85 ≤ N % 256 / 2 := Nat.and_le_left
    have h2 : (N / 256 / 2) &&& msk 85 k ≤ N / 256 / 2 := Nat.and_le_left
    omega
theorem bl2 : ∀ (k N : Nat), (N &&& msk 51 k) + ((N / 4) &&& msk 51 k) = bmap bf2 k N
  | 0, N => by simp [msk, bmap]
  | k + 1, N => by
    have ih := bl2 k (N / 256)
    have e1 : N / 4 = (N % 256 / 4 + 64 * (N / 256 % 4)) + 256 * (N / 256 / 4) := by omega
    have e2 : N &&& (51 + 256 * msk 51 k) = (N % 256 &&& 51) + 256 * (N / 256 &&& msk 51 k) := by
      have e3 : N = N % 256 + 256 * (N / 256) := by omega
      rw [← land256 (by omega) (by omega), ← e3]
    rw [msk, bmap, e2, e1, land256 (by omega) (by omega), bd2 _ (by omega) _ (by omega), ← ih, bf2]
    omega
def nib : Nat → Nat → Prop
  | 0, N => N = 0
  | k + 1, N => N % 256 % 16 ≤ 6 ∧ N % 256 / 16 ≤ 6 ∧ nib k (N / 256)
theorem nib_lo : ∀ {k N : Nat}, nib k N → N % 16 ≤ 6
  | 0, N, h => by rw [h]; omega
  | k + 1, N, h => by have := h.1; omega
theorem bl3 : ∀ (k N : Nat), nib k N → (N + N / 16) &&& msk 15 k = bmap bf3 k N
  | 0, N, _ => by simp [msk, bmap]
  | k + 1, N, h => by
    have ih := bl3 k (N / 256) h.2.2
    have h1 := h.1
    have h2 := h.2.1
    have h3 := nib_lo h.2.2
    have e1 : N + N / 16 = (N % 256 + N % 256 / 16 + 16 * (N / 256 % 16)) + 256 * (N / 256 + N / 256 / 16) := by omega
    have e2 : ∀ z : Nat, z &&& 15 = z % 16 := fun z => Nat.and_two_pow_sub_one_eq_mod z 4
    rw [msk, bmap, e1, land256 (by omega) (by omega), ← ih, e2, bf3]
    omega
theorem bcomp {f g : Nat → Nat} (hg : ∀ b, b < 256 → g b < 256) : ∀ (k N : Nat), bmap f k (bmap g k N) = bmap (fun b => f (g b)) k N
  | 0, _ => rfl
  | k + 1, N => by
    have h := hg (N % 256) (by omega)
    rw [bmap, bmap, bmap, show (g (N % 256) + 256 * bmap g k (N / 256)) % 256 = g (N % 256) by omega, show (g (N % 256) + 256 * bmap g k (N / 256)) / 256 = bmap g k (N / 256) by omega, bcomp hg k]
theorem bnib {g : Nat → Nat} (hg : ∀ b, b < 256 → g b < 256 ∧ g b % 16 ≤ 6 ∧ g b / 16 ≤ 6) : ∀ (k N : Nat), nib k (bmap g k N)
  | 0, _ => rfl
  | k + 1, N => by
    have h := hg (N % 256) (by omega)
    rw [bmap, nib, show (g (N % 256) + 256 * bmap g k (N / 256)) % 256 = g (N % 256) by omega, show (g (N % 256) + 256 * bmap g k (N / 256)) / 256 = bmap g k (N / 256) by omega]
    exact ⟨h.2.1, h.2.2, bnib hg k _⟩
def bsum (f : Nat → Nat) : Nat → Nat → Nat
  | 0, _ => 0
  | k + 1, N => f (N % 256) + bsum f k (N / 256)
theorem bsum_ct : ∀ (k N : Nat), ct (fun i => N.testBit i) (8 * k) = bsum (fun b => ct (fun i => b.testBit i) 8) k N
  | 0, _ => rfl
  | k + 1, N => by
    rw [bsum, ← bsum_ct k (N / 256), show 8 * (k + 1) = 8 + 8 * k by omega, ct_split]
    congr 1
    · refine ct_congr (fun i hi => ?_)
      have := Nat.testBit_mod_two_pow N 8 i
      rw [show (2 : Nat) ^ 8 = 256 from rfl] at this
      rw [this]
      simp [hi]
    · refine ct_congr (fun i _ => ?_)
      have := Nat.testBit_div_two_pow (n := 8) N i
      rw [show (2 : Nat) ^ 8 = 256 from rfl] at this
      show N.testBit (8 + i) = (N / 256).testBit i
      rw [this, Nat.add_comm]
theorem bmap_congr {f g : Nat → Nat} (h : ∀ b, b < 256 → f b = g b) : ∀ (k N : Nat), bmap f k N = bmap g k N
  | 0, _ => rfl
  | k + 1, N => by rw [bmap, bmap, h _ (by omega), bmap_congr h k]
theorem bsum_congr {f g : Nat → Nat} (h : ∀ b, b < 256 → f b = g b) : ∀ (k N : Nat), bsum f k N = bsum g k N
  | 0, _ => rfl
  | k + 1, N => by rw [bsum, bsum, h _ (by omega), bsum_congr h k]
/-- eight bytes added up by three foldings -/
theorem bfold {f : Nat → Nat} (hf : ∀ b, b < 256 → f b ≤ 8) (N : Nat) : ∃ Z A4 A5 A6 : Nat, Z = bmap f 8 N ∧ A4 = Z + Z / 256 ∧ A5 = A4 + A4 / 65536 ∧ A6 = A5 + A5 / 4294967296 ∧ A4 < 18446744073709551616 ∧ A5 < 18446744073709551616 ∧ A6 < 18446744073709551616 ∧ A6 % 128 = bsum f 8 N := by
  refine ⟨_, _, _, _, rfl, rfl, rfl, rfl, ?_⟩
  simp only [bmap, bsum]
  generalize N / 256 = N1
  generalize hc0 : f (N % 256) = c0
  generalize hc1 : f (N1 % 256) = c1
  generalize hc2 : f (N1 / 256 % 256) = c2
  generalize hc3 : f (N1 / 256 / 256 % 256) = c3
  generalize hc4 : f (N1 / 256 / 256 / 256 % 256) = c4
  generalize hc5 : f (N1 / 256 / 256 / 256 / 256 % 256) = c5
  generalize hc6 : f (N1 / 256 / 256 / 256 / 256 / 256 % 256) = c6
  generalize hc7 : f (N1 / 256 / 256 / 256 / 256 / 256 / 256 % 256) = c7
  have b0 : c0 ≤ 8 := by rw [← hc0]; exact hf _ (by omega)
  have b1 : c1 ≤ 8 := by rw [← hc1]; exact hf _ (by omega)
  have b2 : c2 ≤ 8 := by rw [← hc2]; exact hf _ (by omega)
  have b3 : c3 ≤ 8 := by rw [← hc3]; exact hf _ (by omega)
  have b4 : c4 ≤ 8 := by rw [← hc4]; exact hf _ (by omega)
  have b5 : c5 ≤ 8 := by rw [← hc5]; exact hf _ (by omega)
  have b6 : c6 ≤ 8 := by rw [← hc6]; exact hf _ (by omega)
  have b7 : c7 ≤ 8 := by rw [← hc7]; exact hf _ (by omega)
  clear hc0 hc1 hc2 hc3 hc4 hc5 hc6 hc7 hf
  obtain ⟨Z, hZ⟩ : ∃ Z, Z = c0 + 256 * (c1 + 256 * (c2 + 256 * (c3 + 256 * (c4 + 256 * (c5 + 256 * (c6 + 256 * (c7 + 256 * 0))))))) := ⟨_, rfl⟩
  rw [← hZ]
  have z1 : Z / 256 = c1 + 256 * c2 + 65536 * c3 + 16777216 * c4 + 4294967296 * c5 + 1099511627776 * c6 + 281474976710656 * c7 := by omega
  obtain ⟨A, hA⟩ : ∃ A, A = Z + Z / 256 := ⟨_, rfl⟩
  rw [← hA]
  have a1 : A = (c0 + c1) + 256 * (c1 + c2) + 65536 * (c2 + c3) + 16777216 * (c3 + c4) + 4294967296 * (c4 + c5) + 1099511627776 * (c5 + c6) + 281474976710656 * (c6 + c7) + 72057594037927936 * c7 := by omega
  clear hA z1 hZ
  have a2 : A / 65536 = (c2 + c3) + 256 * (c3 + c4) + 65536 * (c4 + c5) + 16777216 * (c5 + c6) + 4294967296 * (c6 + c7) + 1099511627776 * c7 := by omega
  obtain ⟨B, hB⟩ : ∃ B, B = A + A / 65536 := ⟨_, rfl⟩
  rw [← hB]
  have q1 : B = (c0 + c1 + c2 + c3) + 256 * (c1 + c2 + c3 + c4) + 65536 * (c2 + c3 + c4 + c5) + 16777216 * (c3 + c4 + c5 + c6) + 4294967296 * (c4 + c5 + c6 + c7) + 1099511627776 * (c5 + c6 + c7) + 281474976710656 * (c6 + c7) + 72057594037927936 * c7 := by omega
  have hA4 : A < 18446744073709551616 := by omega
  clear hB a2 a1
  have q2 : B / 4294967296 = (c4 + c5 + c6 + c7) + 256 * (c5 + c6 + c7) + 65536 * (c6 + c7) + 16777216 * c7 := by omega
  exact ⟨hA4, by omega, by omega, by omega⟩
theorem pc_val {x a1 a2 a3 a4 a5 a6 : Int64} (e1 : a1 = x - ((x.toUInt64 >>> ((nI 1).toInt64.toUInt64 &&& Int64.toUInt64 63)).toInt64 &&& 6148914691236517205))
    (e2 : a2 = (a1 &&& 3689348814741910323) + ((a1.toUInt64 >>> ((nI 2).toInt64.toUInt64 &&& Int64.toUInt64 63)).toInt64 &&& 3689348814741910323))
    (e3 : a3 = (a2 + (a2.toUInt64 >>> ((nI 4).toInt64.toUInt64 &&& Int64.toUInt64 63)).toInt64) &&& 1085102592571150095)
    (e4 : a4 = a3 + (a3.toUInt64 >>> ((nI 8).toInt64.toUInt64 &&& Int64.toUInt64 63)).toInt64)
    (e5 : a5 = a4 + (a4.toUInt64 >>> ((nI 16).toInt64.toUInt64 &&& Int64.toUInt64 63)).toInt64)
    (e6 : a6 = a5 + (a5.toUInt64 >>> ((nI 32).toInt64.toUInt64 &&& Int64.toUInt64 63)).toInt64) : a6.toInt32 &&& nI 127 = nI (pc64 x) := by
  have m1 : un 6148914691236517205 = msk 85 8 := by decide +kernel
  have m2 : un 3689348814741910323 = msk 51 8 := by decide +kernel
  have m3 : un 1085102592571150095 = msk 15 8 := by decide +kernel
  have hx := un_lt x
  have u1 : un a1 = bmap bf1 8 (un x) := by
    rw [e1, ← bl1 8 (un x) (by omega), un_sub, un_and, un_shr x (by omega), m1]
    rw [un_and, un_shr x (by omega)]
    exact Nat.le_trans Nat.and_le_left (Nat.div_le_self _ _)
  have bnd : ∀ (f : Nat → Nat), (∀ b, b < 256 → f b < 256) → ∀ (k N : Nat), bmap f k N < 256 ^ k := by
    intro f hf k
    induction k with
    | zero => intro N; simp [bmap]
    | succ k ih =>
      intro N
      have h1 := ih (N / 256)
      have h2 := hf (N % 256) (by omega)
      rw [bmap, Nat.pow_succ]
      omega
  have u2 : un a2 = bmap (fun b => bf2 (bf1 b)) 8 (un x) := by
    have h := bnd (fun b => bf2 (bf1 b)) (fun b hb => (bd3 b hb).1) 8 (un x)
    rw [e2, un_add, un_and, un_and, un_shr a1 (by omega), m2]
    have := bl2 8 (un a1)
    rw [show (2 : Nat) ^ 2 = 4 from rfl, this, u1, bcomp bd6]
    exact Nat.mod_eq_of_lt (by omega)
  have u3 : un a3 = bmap (fun b => bf3 (bf2 (bf1 b))) 8 (un x) := by
    have hn := bnib (g := fun b => bf2 (bf1 b)) bd3 8 (un x)
    have h := bnd (fun b => bf2 (bf1 b)) (fun b hb => (bd3 b hb).1) 8 (un x)
    have h7 : ∀ N : Nat, nib 8 N → N ≤ 7378697629483820646 := by
      intro N hN
      simp only [nib] at hN
      omega
    have h8 := h7 _ hn
    rw [e3, un_and, un_add, un_shr a2 (by omega), m3, u2, show (2 : Nat) ^ 4 = 16 from rfl, Nat.mod_eq_of_lt (by omega), bl3 8 _ hn, bcomp (fun b hb => (bd3 b hb).1)]
  obtain ⟨Z, A4, A5, A6, hZ, h4, h5, h6, l4, l5, l6, hs⟩ := bfold (f := fun b => bf3 (bf2 (bf1 b))) bd5 (un x)
  have u4 : un a4 = A4 := by
    rw [e4, un_add, un_shr a3 (by omega), u3, ← hZ, show (2 : Nat) ^ 8 = 256 from rfl, ← h4]
    exact Nat.mod_eq_of_lt l4
  have u5 : un a5 = A5 := by
    rw [e5, un_add, un_shr a4 (by omega), u4, show (2 : Nat) ^ 16 = 65536 from rfl, ← h5]
    exact Nat.mod_eq_of_lt l5
  have u6 : un a6 = A6 := by
    rw [e6, un_add, un_shr a5 (by omega), u5, show (2 : Nat) ^ 32 = 4294967296 from rfl, ← h6]
    exact Nat.mod_eq_of_lt l6
  have hp : pc64 x = A6 % 128 := by
    rw [hs, pc64, bsum_congr (f := fun b => bf3 (bf2 (bf1 b))) bd4 8 (un x), ← bsum_ct]
    rfl
  have key : (a6.toInt32 &&& nI 127).toBitVec.toNat = A6 % 128 := by
    rw [Int32.toBitVec_and, BitVec.toNat_and, show (nI 127).toBitVec.toNat = 2 ^ 7 - 1 by decide +kernel, Nat.and_two_pow_sub_one_eq_mod]
    have : a6.toInt32.toBitVec.toNat = A6 % 4294967296 := by
      rw [Int64.toBitVec_toInt32, BitVec.signExtend_eq_setWidth_of_le _ (by omega), BitVec.toNat_setWidth]
      show un a6 % _ = _
      rw [u6]
    rw [this]
    omega
  have hl : A6 % 128 < 2 ^ 32 := by omega
  apply Int32.toBitVec_inj.mp
  apply BitVec.eq_of_toNat_eq
  rw [key, hp]
  exact (pk_tn hl).symm
end
section
-- Long.bitCount; what the class counts (by gen.py, specB.py)
set_option maxHeartbeats 4000000 in
set_option maxRecDepth 100000 in
theorem c_J13_bitCount_95d88 (l : Launch) (D : va_G) (cI cJ : ClassId) (x : Int64) : eg_MR D (tyL cI cJ) l yJ13_bitCount_95d88 wsJ13_bitCount_95d88 ({ frames := 0, cells := 0, slots := 0, locals := 0 }) [.long x] [] (some (.int (nI (pc64 x)))) := by
  refine Met.ofW (cc := cJ13_bitCount_95d88) (maxL := 2) (ret := (some .int)) (by decide) rfl ?_
  intro p e s m args below meth c s₁ B hml hv
  obtain ⟨rfl, hP, hK⟩ := hv
  have hx := B.exec
  have hb := B.bytes
  have hr := B.returns
  have hts := atoms_spec (ws := wsJ13_bitCount_95d88) B.pre
  have hown : s.vm.findClass RJ13 = some m.cls := findClass_of_methodNamed B.named
  have hlocks := B.notSynchronized
  have hl := lv_entry ([.long x]) (n := 2) (Nat.le_of_ble_eq_true rfl)
  rw [lg_entry_eq]
  generalize (lg_sl ([.long x]) ++ List.replicate (2 - (lg_sl ([.long x])).length) Slot.unset).toArray = ls at hl ⊢
  have hl : lv_has ls 2 [(0, .long x)] := hl
  refine lv_lload_n hx hb dJ13_bitCount_95d88_0 rfl (lv_at hl 0 rfl) ?_
  refine lv_lload_n hx hb dJ13_bitCount_95d88_1 rfl (lv_at hl 0 rfl) ?_
  refine lv_iconst (v := nI 1) hx hb dJ13_bitCount_95d88_2 (by decide +kernel) ?_
  refine lv_lushr (v := ((x.toUInt64 >>> ((nI 1).toInt64.toUInt64 &&& Int64.toUInt64 63)).toInt64)) hx hb dJ13_bitCount_95d88_3 rfl ?_
  refine lv_ldc2 hx hb hown (hts (.constantLong RJ13 314 6148914691236517205) (by decide +kernel)) dJ13_bitCount_95d88_4 ?_
  refine lv_land hx hb dJ13_bitCount_95d88_7 ?_
  refine lv_lsub hx hb dJ13_bitCount_95d88_8 ?_
  refine lv_topl (fun a1 e1 => ?_)
  refine lv_lstore_n (lv' := [(0, .long a1)]) hx hb dJ13_bitCount_95d88_9 rfl hl (by decide) rfl (fun ls hl => ?_)
  refine lv_lload_n hx hb dJ13_bitCount_95d88_10 rfl (lv_at hl 0 rfl) ?_
  refine lv_ldc2 hx hb hown (hts (.constantLong RJ13 316 3689348814741910323) (by decide +kernel)) dJ13_bitCount_95d88_11 ?_
  refine lv_land hx hb dJ13_bitCount_95d88_14 ?_
  refine lv_lload_n hx hb dJ13_bitCount_95d88_15 rfl (lv_at hl 0 rfl) ?_
  refine lv_iconst (v := nI 2) hx hb dJ13_bitCount_95d88_16 (by decide +kernel) ?_
  refine lv_lushr (v := ((a1.toUInt64 >>> ((nI 2).toInt64.toUInt64 &&& Int64.toUInt64 63)).toInt64)) hx hb dJ13_bitCount_95d88_17 rfl ?_
  refine lv_ldc2 hx hb hown (hts (.constantLong RJ13 316 3689348814741910323) (by decide +kernel)) dJ13_bitCount_95d88_18 ?_
  refine lv_land hx hb dJ13_bitCount_95d88_21 ?_
  refine lv_ladd hx hb dJ13_bitCount_95d88_22 ?_
  refine lv_topl (fun a2 e2 => ?_)
  refine lv_lstore_n (lv' := [(0, .long a2)]) hx hb dJ13_bitCount_95d88_23 rfl hl (by decide) rfl (fun ls hl => ?_)
  refine lv_lload_n hx hb dJ13_bitCount_95d88_24 rfl (lv_at hl 0 rfl) ?_
  refine lv_lload_n hx hb dJ13_bitCount_95d88_25 rfl (lv_at hl 0 rfl) ?_
  refine lv_iconst (v := nI 4) hx hb dJ13_bitCount_95d88_26 (by decide +kernel) ?_
  refine lv_lushr (v := ((a2.toUInt64 >>> ((nI 4).toInt64.toUInt64 &&& Int64.toUInt64 63)).toInt64)) hx hb dJ13_bitCount_95d88_27 rfl ?_
  refine lv_ladd hx hb dJ13_bitCount_95d88_28 ?_
  refine lv_ldc2 hx hb hown (hts (.constantLong RJ13 318 1085102592571150095) (by decide +kernel)) dJ13_bitCount_95d88_29 ?_
  refine lv_land hx hb dJ13_bitCount_95d88_32 ?_
  refine lv_topl (fun a3 e3 => ?_)
  refine lv_lstore_n (lv' := [(0, .long a3)]) hx hb dJ13_bitCount_95d88_33 rfl hl (by decide) rfl (fun ls hl => ?_)
  refine lv_lload_n hx hb dJ13_bitCount_95d88_34 rfl (lv_at hl 0 rfl) ?_
  refine lv_lload_n hx hb dJ13_bitCount_95d88_35 rfl (lv_at hl 0 rfl) ?_
  refine lv_bipush (v := nI 8) hx hb dJ13_bitCount_95d88_36 (by decide +kernel) ?_
  refine lv_lushr (v := ((a3.toUInt64 >>> ((nI 8).toInt64.toUInt64 &&& Int64.toUInt64 63)).toInt64)) hx hb dJ13_bitCount_95d88_38 rfl ?_
  refine lv_ladd hx hb dJ13_bitCount_95d88_39 ?_
  refine lv_topl (fun a4 e4 => ?_)
  refine lv_lstore_n (lv' := [(0, .long a4)]) hx hb dJ13_bitCount_95d88_40 rfl hl (by decide) rfl (fun ls hl => ?_)
  refine lv_lload_n hx hb dJ13_bitCount_95d88_41 rfl (lv_at hl 0 rfl) ?_
  refine lv_lload_n hx hb dJ13_bitCount_95d88_42 rfl (lv_at hl 0 rfl) ?_
  refine lv_bipush (v := nI 16) hx hb dJ13_bitCount_95d88_43 (by decide +kernel) ?_
  refine lv_lushr (v := ((a4.toUInt64 >>> ((nI 16).toInt64.toUInt64 &&& Int64.toUInt64 63)).toInt64)) hx hb dJ13_bitCount_95d88_45 rfl ?_
  refine lv_ladd hx hb dJ13_bitCount_95d88_46 ?_
  refine lv_topl (fun a5 e5 => ?_)
  refine lv_lstore_n (lv' := [(0, .long a5)]) hx hb dJ13_bitCount_95d88_47 rfl hl (by decide) rfl (fun ls hl => ?_)
  refine lv_lload_n hx hb dJ13_bitCount_95d88_48 rfl (lv_at hl 0 rfl) ?_
  refine lv_lload_n hx hb dJ13_bitCount_95d88_49 rfl (lv_at hl 0 rfl) ?_
  refine lv_bipush (v := nI 32) hx hb dJ13_bitCount_95d88_50 (by decide +kernel) ?_
  refine lv_lushr (v := ((a5.toUInt64 >>> ((nI 32).toInt64.toUInt64 &&& Int64.toUInt64 63)).toInt64)) hx hb dJ13_bitCount_95d88_52 rfl ?_
  refine lv_ladd hx hb dJ13_bitCount_95d88_53 ?_
  refine lv_topl (fun a6 e6 => ?_)
  refine lv_lstore_n (lv' := [(0, .long a6)]) hx hb dJ13_bitCount_95d88_54 rfl hl (by decide) rfl (fun ls hl => ?_)
  refine lv_lload_n hx hb dJ13_bitCount_95d88_55 rfl (lv_at hl 0 rfl) ?_
  refine lv_l2i (v := a6.toInt32) hx hb dJ13_bitCount_95d88_56 rfl ?_
  refine lv_bipush (v := nI 127) hx hb dJ13_bitCount_95d88_57 (by decide +kernel) ?_
  refine lv_iand hx hb dJ13_bitCount_95d88_59 ?_
  exact W.iret hx hb hr (fun t9 ht9 _ => ⟨congrArg (fun z => Outcome.returned (some (Value.int z))) (by first | exact pc_val e1 e2 e3 e4 e5 e6), ht9⟩) (fun q h => nomatch h) dJ13_bitCount_95d88_60
end
section
-- what a putWaiting, a putText do to the lists
theorem pw_St {q : Nat → Nat} {cI cJ : ClassId} {n : Nat} {mk lt tg : Nat → Int32} {pa an la kn : Nat → Int64} {fb : Int32} {fh nb te wt bh : Nat → Int32} {x : Int32} {S R A : List Nat} {f : Nat} {r : Option Value} {w1 : va_W} (hn : n ≤ 60)
    (h : (ev n x = true ∧ S.length < 60 ∧ r = some (.int (nI (S.length + 1))) ∧ w1 = wX q cI cJ (nI n) mk lt tg pa an la kn fb fh nb te (upd wt S.length x) bh) ∨ ((ev n x = false ∨ 60 ≤ S.length) ∧ r = some (.int (nI S.length)) ∧ w1 = wX q cI cJ (nI n) mk lt tg pa an la kn fb fh nb te wt bh))
    (ht : Tr n fh nb f x A) (hs : St n fh nb S R) (hk : stk wt S) (hl : S.length < 60) :
    ∃ (S' : List Nat) (wt' : Nat → Int32), r = some (.int (nI S'.length)) ∧ w1 = wX q cI cJ (nI n) mk lt tg pa an la kn fb fh nb te wt' bh ∧ St n fh nb S' (A ++ R) ∧ stk wt' S' := by
  rcases h with ⟨h1, h2, h3, h4⟩ | ⟨h1, h3, h4⟩
  · obtain ⟨e, he, rfl⟩ := ev_of (by omega) h1
    exact ⟨e :: S, _, h3, h4, St_push he hs ht, stk_push hk⟩
  · rcases h1 with h1 | h1
    · exact ⟨S, wt, h3, h4, St_none (by omega) hs ht h1, hk⟩
    · omega
theorem pt_holds {q : Nat → Nat} {cI cJ : ClassId} {n : Nat} {mk lt tg : Nat → Int32} {pa an la kn : Nat → Int64} {fb : Int32} {fh nb te wt bh : Nat → Int32} {z : Int64} {e0 : Nat} {E : List Nat} {r : Option Value} {w1 : va_W}
    (h : (bi z e0 = true ∧ (E.filter (bi z)).length < 60 ∧ r = some (.int (nI ((E.filter (bi z)).length + 1))) ∧ w1 = wX q cI cJ (nI n) mk lt tg pa an la kn fb fh nb (upd te (E.filter (bi z)).length (nI e0)) wt bh) ∨ ((bi z e0 = false ∨ 60 ≤ (E.filter (bi z)).length) ∧ r = some (.int (nI (E.filter (bi z)).length)) ∧ w1 = wX q cI cJ (nI n) mk lt tg pa an la kn fb fh nb te wt bh))
    (hh : holds te (E.filter (bi z))) (hl : E.length < 60) :
    ∃ te' : Nat → Int32, r = some (.int (nI ((E ++ [e0]).filter (bi z)).length)) ∧ w1 = wX q cI cJ (nI n) mk lt tg pa an la kn fb fh nb te' wt bh ∧ holds te' ((E ++ [e0]).filter (bi z)) := by
  have hf : (E.filter (bi z)).length ≤ E.length := List.length_filter_le _ _
  rcases h with ⟨h1, h2, h3, h4⟩ | ⟨h1, h3, h4⟩
  · have e1 : (E ++ [e0]).filter (bi z) = E.filter (bi z) ++ [e0] := by rw [List.filter_append, List.filter_cons_of_pos h1]; rfl
    refine ⟨_, ?_, h4, ?_⟩
    · rw [e1, h3, List.length_append]; rfl
    · rw [e1]; exact holds_push hh
  · rcases h1 with h1 | h1
    · have e1 : (E ++ [e0]).filter (bi z) = E.filter (bi z) := by
        rw [List.filter_append, List.filter_cons_of_neg (by rw [h1]; decide)]; simp
      exact ⟨te, by rw [e1, h3], h4, by rw [e1]; exact hh⟩
    · omega
theorem flen {z : Int64} (E : List Nat) : (E.filter (bi z)).length ≤ E.length := List.length_filter_le _ _
end
section
-- findText (by gen.py, specB.py)
set_option maxHeartbeats 4000000 in
set_option maxRecDepth 100000 in
theorem c_X0_addKnown (l : Launch) (D : va_G) (cI cJ : ClassId) (q : Nat → Nat) (n : Nat) (mk lt tg : Nat → Int32) (pa an la kn : Nat → Int64) (fb : Int32) (fh nb te wt bh : Nat → Int32) (a : Nat) (v : Int64) (ha : a < 4) : eg_MW D (tyL cI cJ) l yX0_addKnown wsX0_addKnown ({ frames := 1, cells := 0, slots := 0, locals := 21 }) 0 0 [.ref (q 0), .int (nI a), .long v] (wX q cI cJ (nI n) mk lt tg pa an la kn fb fh nb te wt bh) (fun r w1 => r = some (.int (nI (pc64 (v &&& (kn a ^^^ (-1)))))) ∧ w1 = wX q cI cJ (nI n) mk lt tg pa an la (vp_updL kn a (kn a ||| v)) fb fh nb te wt bh) := by
  refine Met.ofW (cc := cX0_addKnown) (maxL := 5) (ret := (some .int)) (by decide) rfl ?_
  intro p e s m args below meth c s₁ B hml hv
  obtain ⟨rfl, hP, hK, hD0⟩ := hv
  have hx := B.exec
  have hb := B.bytes
  have hr := B.returns
  have hts := atoms_spec (ws := wsX0_addKnown) B.pre
  have hown : s.vm.findClass RX0 = some m.cls := findClass_of_methodNamed B.named
  have hlocks := B.notSynchronized
  have hD := eg_D_of hD0
  have hS : va_S (eg_A (wX q cI cJ (nI n) mk lt tg pa an la kn fb fh nb te wt bh)) s.heap s.heap [] := va_S.rf
  have hin : ∀ w ∈ u_ws RX0 TX0 14, w ∈ wsX0_addKnown := by decide +kernel
  have hl := lv_entry ([.ref (q 0), .int (nI a), .long v]) (n := 5) (Nat.le_of_ble_eq_true rfl)
  rw [lg_entry_eq]
  generalize (lg_sl ([.ref (q 0), .int (nI a), .long v]) ++ List.replicate (5 - (lg_sl ([.ref (q 0), .int (nI a), .long v])).length) Slot.unset).toArray = ls at hl ⊢
  have hl : lv_has ls 5 [(0, .ref (q 0)), (1, .int (nI a)), (2, .long v)] := hl
  generalize h0H : s.heap = H at hP ⊢
  have hS : va_S (eg_A (wX q cI cJ (nI n) mk lt tg pa an la kn fb fh nb te wt bh)) s.heap H [] := by rw [← h0H]; exact hS
  generalize ([] : List Loc) = locs at hS ⊢
  refine lv_lload_n hx hb dX0_addKnown_0 rfl (lv_at hl 2 rfl) ?_
  refine lv_aload_n hx hb dX0_addKnown_1 rfl (lv_at hl 0 rfl) ?_
  refine va_get (D := D) (ci := 0) (v := .ref (q 7)) (C := RX0) (T := TX0) (N := 14) hx hb hts hin hown hK hP 0 rfl rfl 7 (by decide) (hts (.fieldLink RX0 33 "EditGraph" "knownSets" "[J") (by decide +kernel)) (fun _ h9 => h9) rfl dX0_addKnown_2 ?_
  refine lv_iload_n hx hb dX0_addKnown_5 rfl (lv_at hl 1 rfl) ?_
  refine eg_lald hx hb hK hP 7 1 rfl rfl (by omega) (by decide) dX0_addKnown_6 ?_
  refine lv_ldc2 hx hb hown (hts (.constantLong RX0 112 (-1)) (by decide +kernel)) dX0_addKnown_7 ?_
  refine lv_lxor hx hb dX0_addKnown_10 ?_
  refine lv_land hx hb dX0_addKnown_11 ?_
  refine eg_callS (As := [.long (v &&& ((kn a) ^^^ (-1)))]) (rest := []) hx hb hml hown hts hK (c_J13_bitCount_95d88 l D cI cJ (v &&& ((kn a) ^^^ (-1))) ) (va_cwS 1 hts gX0_addKnown_J13_bitCount_95d88 rfl rfl rfl (by decide +kernel) ⟨Nat.le_of_ble_eq_true rfl, Nat.le_of_ble_eq_true rfl⟩) rfl hl.1 rfl (Nat.le_of_ble_eq_true rfl) dX0_addKnown_12 ⟨Nat.zero_le _, Nat.zero_le _⟩ ?_
  refine lv_istore (lv' := [(4, .int (nI (pc64 (v &&& ((kn a) ^^^ (-1)))))), (0, .ref (q 0)), (1, .int (nI a)), (2, .long v)]) hx hb dX0_addKnown_15 hl (by decide) rfl (fun ls hl => ?_)
  refine lv_aload_n hx hb dX0_addKnown_17 rfl (lv_at hl 1 rfl) ?_
  refine va_get (D := D) (ci := 0) (v := .ref (q 7)) (C := RX0) (T := TX0) (N := 14) hx hb hts hin hown hK hP 0 rfl rfl 7 (by decide) (hts (.fieldLink RX0 33 "EditGraph" "knownSets" "[J") (by decide +kernel)) (fun _ h9 => h9) rfl dX0_addKnown_18 ?_
  refine lv_iload_n hx hb dX0_addKnown_21 rfl (lv_at hl 2 rfl) ?_
  refine lv_dup2_11 hx hb dX0_addKnown_22 rfl rfl ?_
  refine eg_lald hx hb hK hP 7 1 rfl rfl (by omega) (by decide) dX0_addKnown_23 ?_
  refine lv_lload_n hx hb dX0_addKnown_24 rfl (lv_at hl 3 rfl) ?_
  refine lv_lor hx hb dX0_addKnown_25 ?_
  refine eg_last hx hb hK hP hD rfl hS 7 1 rfl rfl (by omega) (by decide) dX0_addKnown_26 (w' := wX q cI cJ (nI n) mk lt tg pa an la (vp_updL kn a ((kn a) ||| v)) fb fh nb te wt bh) rfl (fun H locs hP hS => ?_)
  refine lv_iload hx hb dX0_addKnown_27 (lv_at hl 0 rfl) ?_
  exact W.iret hx hb hr (fun t9 ht9 _ => ⟨some (.int (nI (pc64 (v &&& ((kn a) ^^^ (-1)))))), (wX q cI cJ (nI n) mk lt tg pa an la (vp_updL kn a ((kn a) ||| v)) fb fh nb te wt bh), rfl, ⟨rfl, rfl⟩, rfl, by rw [ht9]; exact hP, hS.F ht9⟩) hS.2.2 dX0_addKnown_29
set_option maxHeartbeats 4000000 in
set_option maxRecDepth 100000 in
theorem c_X0_findText (l : Launch) (D : va_G) (cI cJ : ClassId) (q : Nat → Nat) (n : Nat) (mk lt tg : Nat → Int32) (pa an la kn : Nat → Int64) (fb : Int32) (fh nb te wt bh : Nat → Int32) (v : Int64) (O : List Nat) (hn : n ≤ 60) (hdl : ∀ k, k < n → bi v k = true → lt k = -1 → ∃ t, t < n ∧ tg k = nI t) (htr : ∃ f, Tr n fh nb f fb O) (hln : O.length ≤ 60) : eg_MW D (tyL cI cJ) l yX0_findText wsX0_findText ({ frames := 3, cells := 0, slots := 0, locals := 69 }) 0 0 [.ref (q 0), .long v] (wX q cI cJ (nI n) mk lt tg pa an la kn fb fh nb te wt bh) (fun r w1 => ∃ (te' wt' : Nat → Int32), r = some (.int (nI (O.filter (bi (sdX lt tg v n))).length)) ∧ w1 = wX q cI cJ (nI n) mk lt tg pa an la kn fb fh nb te' wt' bh ∧ holds te' (O.filter (bi (sdX lt tg v n)))) := by
  obtain ⟨fO, hTO⟩ := htr
  refine Met.ofW (cc := cX0_findText) (maxL := 9) (ret := (some .int)) (by decide) rfl ?_
  intro p e s m args below meth c s₁ B hml hv
  obtain ⟨rfl, hP, hK, hD0⟩ := hv
  have hx := B.exec
  have hb := B.bytes
  have hr := B.returns
  have hts := atoms_spec (ws := wsX0_findText) B.pre
  have hown : s.vm.findClass RX0 = some m.cls := findClass_of_methodNamed B.named
  have hlocks := B.notSynchronized
  have hD := eg_D_of hD0
  have hS : va_S (eg_A (wX q cI cJ (nI n) mk lt tg pa an la kn fb fh nb te wt bh)) s.heap s.heap [] := va_S.rf
  have hin : ∀ w ∈ u_ws RX0 TX0 14, w ∈ wsX0_findText := by decide +kernel
  have hl := lv_entry ([.ref (q 0), .long v]) (n := 9) (Nat.le_of_ble_eq_true rfl)
  rw [lg_entry_eq]
  generalize (lg_sl ([.ref (q 0), .long v]) ++ List.replicate (9 - (lg_sl ([.ref (q 0), .long v])).length) Slot.unset).toArray = ls at hl ⊢
  have hl : lv_has ls 9 [(0, .ref (q 0)), (1, .long v)] := hl
  generalize h0H : s.heap = H at hP ⊢
  have hS : va_S (eg_A (wX q cI cJ (nI n) mk lt tg pa an la kn fb fh nb te wt bh)) s.heap H [] := by rw [← h0H]; exact hS
  generalize ([] : List Loc) = locs at hS ⊢
  have loop : ∀ (f i : Nat) (E S R : List Nat) (te1 wt1 : Nat → Int32) (H : Heap) (locs : List Loc) (ls : Array Slot), 60 < i + f → i ≤ 60 → E.length = i → E ++ R = O → St n fh nb S R → stk wt1 S → holds te1 (E.filter (bi (sdX lt tg v n))) → va_P D vwCl (wX q cI cJ (nI n) mk lt tg pa an la kn fb fh nb te1 wt1 bh) H → va_S (eg_A (wX q cI cJ (nI n) mk lt tg pa an la kn fb fh nb te wt bh)) s.heap H locs → lv_has ls 9 [(0, .ref (q 0)), (1, .long v), (3, .long (sdX lt tg v n)), (5, .int (nI ((E.filter (bi (sdX lt tg v n))).length))), (6, .int (nI S.length)), (7, .int (nI i))] → W p l e (headSpec wsX0_findText ({ frames := 3, cells := 0, slots := 0, locals := 69 })).room s m ([.ref (q 0), .long v] : List Value).toArray below meth c H locs 0 0 (MQ below (eg_Wq D (wX q cI cJ (nI n) mk lt tg pa an la kn fb fh nb te wt bh) (fun r w1 => ∃ (te' wt' : Nat → Int32), r = some (.int (nI (O.filter (bi (sdX lt tg v n))).length)) ∧ w1 = wX q cI cJ (nI n) mk lt tg pa an la kn fb fh nb te' wt' bh ∧ holds te' (O.filter (bi (sdX lt tg v n))))) ([.ref (q 0), .long v] : List Value).toArray s 0 0 (eg_A (wX q cI cJ (nI n) mk lt tg pa an la kn fb fh nb te wt bh))) (F0 m 23 ls []) := by
    intro f
    induction f with
    | zero => intro i E S R te1 wt1  H locs ls h1 h2 h3 h4 h5 h6 h7 hP hS hl; omega
    | succ f ih =>
      intro i E S R te1 wt1  H locs ls h1 h2 h3 h4 h5 h6 h7 hP hS hl
      have hEi := h3
      have hER := h4
      have hSt := h5
      have hstk := h6
      have hhold := h7
      have hSl := St_len (by omega) S R hSt
      have hOl0 : E.length + R.length = O.length := by rw [← hER, List.length_append]
      refine lv_iload hx hb dX0_findText_23 (lv_at hl 5 rfl) ?_
      refine lv_bipush (v := nI 60) hx hb dX0_findText_25 (by decide +kernel) ?_
      refine eg_icmp_ge (tgt := 94) hx hb dX0_findText_27 (by decide) (by omega) (by omega) (fun c27 => ?_) (fun c27 => ?_)
      · refine lv_iload hx hb dX0_findText_94 (lv_at hl 3 rfl) ?_
        have hEO : E = O := by
          have hR0 : R = [] := by
            first
            | (have hc := c32; have : S = [] := List.length_eq_zero_iff.mp hc; subst this; exact hSt)
            | (have hc := c27; have hOl : E.length + R.length = O.length := (by rw [← hER, List.length_append]); exact List.length_eq_zero_iff.mp (by omega))
          rw [← hER, hR0, List.append_nil]
        subst hEO
        exact W.iret hx hb hr (fun t9 ht9 _ => ⟨some (.int (nI (E.filter (bi (sdX lt tg v n))).length)), (wX q cI cJ (nI n) mk lt tg pa an la kn fb fh nb te1 wt1 bh), rfl, ⟨te1, wt1, rfl, rfl, hhold⟩, rfl, by rw [ht9]; exact hP, hS.F ht9⟩) hS.2.2 dX0_findText_96
      · refine lv_iload hx hb dX0_findText_30 (lv_at hl 4 rfl) ?_
        refine eg_if_le (tgt := 94) hx hb dX0_findText_32 (by decide) (by omega) (fun c32 => ?_) (fun c32 => ?_)
        · refine lv_iload hx hb dX0_findText_94 (lv_at hl 3 rfl) ?_
          have hEO : E = O := by
            have hR0 : R = [] := by
              first
              | (have hc := c32; have : S = [] := List.length_eq_zero_iff.mp hc; subst this; exact hSt)
              | (have hc := c27; have hOl : E.length + R.length = O.length := (by rw [← hER, List.length_append]); exact List.length_eq_zero_iff.mp (by omega))
            rw [← hER, hR0, List.append_nil]
          subst hEO
          exact W.iret hx hb hr (fun t9 ht9 _ => ⟨some (.int (nI (E.filter (bi (sdX lt tg v n))).length)), (wX q cI cJ (nI n) mk lt tg pa an la kn fb fh nb te1 wt1 bh), rfl, ⟨te1, wt1, rfl, rfl, hhold⟩, rfl, by rw [ht9]; exact hP, hS.F ht9⟩) hS.2.2 dX0_findText_96
        · obtain ⟨e0, S2, rfl⟩ : ∃ e0 S2, S = e0 :: S2 := by cases S with | nil => exact absurd c32 (Nat.lt_irrefl 0) | cons x y => exact ⟨x, y, rfl⟩
          obtain ⟨f2, A2, B2, R2, he0, hRe, hTA, hTB, hSt2⟩ := St_pop (by omega) hSt
          have hRl : R.length = A2.length + (B2.length + R2.length) + 1 := by rw [hRe]; simp only [List.length_cons, List.length_append]
          have hOl : E.length + R.length = O.length := by rw [← hER, List.length_append]
          have hS2l := St_len (by omega) S2 R2 hSt2
          have hfl := flen (z := (sdX lt tg v n)) E
          have hl : lv_has ls 9 [(0, .ref (q 0)), (1, .long v), (3, .long (sdX lt tg v n)), (5, .int (nI ((E.filter (bi (sdX lt tg v n))).length))), (6, .int (nI (S2.length + 1))), (7, .int (nI i))] := hl
          refine lv_iinc (v := nI (S2.length + 1 - 1)) (lv' := [(6, .int (nI (S2.length + 1 - 1))), (0, .ref (q 0)), (1, .long v), (3, .long (sdX lt tg v n)), (5, .int (nI ((E.filter (bi (sdX lt tg v n))).length))), (7, .int (nI i))]) hx hb dX0_findText_35 hl (k := 4) rfl (eg_dec1 (by omega)) (by decide) rfl (fun ls hl => ?_)
          have hl : lv_has ls 9 [(6, .int (nI S2.length)), (0, .ref (q 0)), (1, .long v), (3, .long (sdX lt tg v n)), (5, .int (nI ((E.filter (bi (sdX lt tg v n))).length))), (7, .int (nI i))] := hl
          refine lv_aload_n hx hb dX0_findText_38 rfl (lv_at hl 1 rfl) ?_
          refine va_get (D := D) (ci := 0) (v := .ref (q 11)) (C := RX0) (T := TX0) (N := 14) hx hb hts hin hown hK hP 0 rfl rfl 12 (by decide) (hts (.fieldLink RX0 48 "EditGraph" "waiting" "[I") (by decide +kernel)) (fun _ h9 => h9) rfl dX0_findText_39 ?_
          refine lv_iload hx hb dX0_findText_42 (lv_at hl 0 rfl) ?_
          refine eg_iald hx hb hK hP 11 0 rfl rfl (by omega) (by decide) dX0_findText_44 ?_
          rw [hstk.1]
          refine lv_istore (lv' := [(8, .int (nI e0)), (6, .int (nI S2.length)), (0, .ref (q 0)), (1, .long v), (3, .long (sdX lt tg v n)), (5, .int (nI ((E.filter (bi (sdX lt tg v n))).length))), (7, .int (nI i))]) hx hb dX0_findText_45 hl (by decide) rfl (fun ls hl => ?_)
          refine lv_aload_n hx hb dX0_findText_47 rfl (lv_at hl 2 rfl) ?_
          refine lv_lload_n hx hb dX0_findText_48 rfl (lv_at hl 4 rfl) ?_
          refine lv_iload hx hb dX0_findText_49 (lv_at hl 0 rfl) ?_
          refine lv_iload hx hb dX0_findText_51 (lv_at hl 5 rfl) ?_
          refine eg_callWV (As := [.long (sdX lt tg v n), .int (nI e0), .int (nI ((E.filter (bi (sdX lt tg v n))).length))]) (rest := []) hx hb hml hown hts hK hP hD rfl hS (c_X0_putText l D cI cJ q n mk lt tg pa an la kn fb fh nb te1 wt1 bh (sdX lt tg v n) e0 (E.filter (bi (sdX lt tg v n))).length (by omega) (by omega)) (cwV 3 hts gX0_findText_X0_putText rfl rfl rfl (by decide +kernel) ⟨Nat.le_of_ble_eq_true rfl, Nat.le_of_ble_eq_true rfl⟩) (va_recv hK hP (ci := 0) (q0 := 0) rfl rfl) rfl hl.1 rfl (Nat.le_of_ble_eq_true rfl) dX0_findText_53 ⟨Nat.zero_le _, Nat.zero_le _⟩ (fun v9 w9 H locs hR9 hw9 hP hS => ?_)
          obtain ⟨te2, rfl, rfl, hhold2⟩ := pt_holds hR9 hhold (by omega)
          refine lv_istore (lv' := [(5, .int (nI (((E ++ [e0]).filter (bi (sdX lt tg v n))).length))), (8, .int (nI e0)), (6, .int (nI S2.length)), (0, .ref (q 0)), (1, .long v), (3, .long (sdX lt tg v n)), (7, .int (nI i))]) hx hb dX0_findText_56 hl (by decide) rfl (fun ls hl => ?_)
          refine lv_aload_n hx hb dX0_findText_58 rfl (lv_at hl 3 rfl) ?_
          refine lv_aload_n hx hb dX0_findText_59 rfl (lv_at hl 3 rfl) ?_
          refine va_get (D := D) (ci := 0) (v := .ref (q 9)) (C := RX0) (T := TX0) (N := 14) hx hb hts hin hown hK hP 0 rfl rfl 10 (by decide) (hts (.fieldLink RX0 42 "EditGraph" "nextBeside" "[I") (by decide +kernel)) (fun _ h9 => h9) rfl dX0_findText_60 ?_
          refine lv_iload hx hb dX0_findText_63 (lv_at hl 1 rfl) ?_
          refine eg_iald hx hb hK hP 9 0 rfl rfl (by omega) (by decide) dX0_findText_65 ?_
          refine lv_iload hx hb dX0_findText_66 (lv_at hl 2 rfl) ?_
          refine eg_callWV (As := [.int (nb e0), .int (nI S2.length)]) (rest := []) hx hb hml hown hts hK hP hD rfl hS (c_X0_putWaiting l D cI cJ q n mk lt tg pa an la kn fb fh nb te2 wt1 bh (nb e0) S2.length (by omega) (by omega)) (cwV 2 hts gX0_findText_X0_putWaiting rfl rfl rfl (by decide +kernel) ⟨Nat.le_of_ble_eq_true rfl, Nat.le_of_ble_eq_true rfl⟩) (va_recv hK hP (ci := 0) (q0 := 0) rfl rfl) rfl hl.1 rfl (Nat.le_of_ble_eq_true rfl) dX0_findText_68 ⟨Nat.zero_le _, Nat.zero_le _⟩ (fun v9 w9 H locs hR9 hw9 hP hS => ?_)
          obtain ⟨S3, wt3, rfl, rfl, hSt71, hstk71⟩ := pw_St (S := S2) hn hR9 hTB hSt2 hstk.2 (by omega)
          have hS3l := St_len (by omega) S3 _ hSt71
          rw [List.length_append] at hS3l
          refine lv_istore (lv' := [(6, .int (nI S3.length)), (5, .int (nI (((E ++ [e0]).filter (bi (sdX lt tg v n))).length))), (8, .int (nI e0)), (0, .ref (q 0)), (1, .long v), (3, .long (sdX lt tg v n)), (7, .int (nI i))]) hx hb dX0_findText_71 hl (by decide) rfl (fun ls hl => ?_)
          refine lv_aload_n hx hb dX0_findText_73 rfl (lv_at hl 3 rfl) ?_
          refine lv_aload_n hx hb dX0_findText_74 rfl (lv_at hl 3 rfl) ?_
          refine va_get (D := D) (ci := 0) (v := .ref (q 8)) (C := RX0) (T := TX0) (N := 14) hx hb hts hin hown hK hP 0 rfl rfl 9 (by decide) (hts (.fieldLink RX0 39 "EditGraph" "firstHanging" "[I") (by decide +kernel)) (fun _ h9 => h9) rfl dX0_findText_75 ?_
          refine lv_iload hx hb dX0_findText_78 (lv_at hl 2 rfl) ?_
          refine eg_iald hx hb hK hP 8 0 rfl rfl (by omega) (by decide) dX0_findText_80 ?_
          refine lv_iload hx hb dX0_findText_81 (lv_at hl 0 rfl) ?_
          refine eg_callWV (As := [.int (fh e0), .int (nI S3.length)]) (rest := []) hx hb hml hown hts hK hP hD rfl hS (c_X0_putWaiting l D cI cJ q n mk lt tg pa an la kn fb fh nb te2 wt3 bh (fh e0) S3.length (by omega) (by omega)) (cwV 2 hts gX0_findText_X0_putWaiting rfl rfl rfl (by decide +kernel) ⟨Nat.le_of_ble_eq_true rfl, Nat.le_of_ble_eq_true rfl⟩) (va_recv hK hP (ci := 0) (q0 := 0) rfl rfl) rfl hl.1 rfl (Nat.le_of_ble_eq_true rfl) dX0_findText_83 ⟨Nat.zero_le _, Nat.zero_le _⟩ (fun v9 w9 H locs hR9 hw9 hP hS => ?_)
          obtain ⟨S4, wt4, rfl, rfl, hSt86, hstk86⟩ := pw_St (S := S3) hn hR9 hTA hSt71 hstk71 (by omega)
          refine lv_istore (lv' := [(6, .int (nI S4.length)), (5, .int (nI (((E ++ [e0]).filter (bi (sdX lt tg v n))).length))), (8, .int (nI e0)), (0, .ref (q 0)), (1, .long v), (3, .long (sdX lt tg v n)), (7, .int (nI i))]) hx hb dX0_findText_86 hl (by decide) rfl (fun ls hl => ?_)
          refine lv_iinc (v := nI (i + 1)) (lv' := [(7, .int (nI (i + 1))), (6, .int (nI S4.length)), (5, .int (nI (((E ++ [e0]).filter (bi (sdX lt tg v n))).length))), (8, .int (nI e0)), (0, .ref (q 0)), (1, .long v), (3, .long (sdX lt tg v n))]) hx hb dX0_findText_88 hl (k := 6) rfl (eg_inc1 _) (by decide) rfl (fun ls hl => ?_)
          refine lv_goto (tgt := 23) hx hb dX0_findText_91 (by decide) ?_
          exact ih (i + 1) (E ++ [e0]) S4 (A2 ++ (B2 ++ R2)) te2 wt4 H locs _ (by omega) (by omega) (by rw [List.length_append, hEi]; rfl) (by rw [← hER, hRe, List.append_assoc]; rfl) hSt86 hstk86 hhold2 hP hS (lv_sub hl [4, 5, 6, 2, 1, 0] rfl)
  refine lv_aload_n hx hb dX0_findText_0 rfl (lv_at hl 0 rfl) ?_
  refine lv_lload_n hx hb dX0_findText_1 rfl (lv_at hl 1 rfl) ?_
  refine eg_callV (As := [.long v]) (rest := []) hx hb hml hown hts hK hP (c_X0_standingIn l D cI cJ q n mk lt tg pa an la kn fb fh nb te wt bh v (by omega) hdl) (cwV 1 hts gX0_findText_X0_standingIn rfl rfl rfl (by decide +kernel) ⟨Nat.le_of_ble_eq_true rfl, Nat.le_of_ble_eq_true rfl⟩) (va_recv hK hP (ci := 0) (q0 := 0) rfl rfl) rfl hl.1 rfl (Nat.le_of_ble_eq_true rfl) dX0_findText_2 ⟨Nat.zero_le _, Nat.zero_le _⟩ ?_
  refine lv_lstore_n (lv' := [(3, .long (sdX lt tg v n)), (0, .ref (q 0)), (1, .long v)]) hx hb dX0_findText_5 rfl hl (by decide) rfl (fun ls hl => ?_)
  refine lv_iconst (v := nI 0) hx hb dX0_findText_6 (by decide +kernel) ?_
  refine lv_istore (lv' := [(5, .int (nI 0)), (3, .long (sdX lt tg v n)), (0, .ref (q 0)), (1, .long v)]) hx hb dX0_findText_7 hl (by decide) rfl (fun ls hl => ?_)
  refine lv_aload_n hx hb dX0_findText_9 rfl (lv_at hl 2 rfl) ?_
  refine lv_aload_n hx hb dX0_findText_10 rfl (lv_at hl 2 rfl) ?_
  refine va_get (D := D) (ci := 0) (v := .int fb) (C := RX0) (T := TX0) (N := 14) hx hb hts hin hown hK hP 0 rfl rfl 8 (by decide) (hts (.fieldLink RX0 36 "EditGraph" "firstAtBeginning" "I") (by decide +kernel)) (fun _ h9 => h9) rfl dX0_findText_11 ?_
  refine lv_iconst (v := nI 0) hx hb dX0_findText_14 (by decide +kernel) ?_
  refine eg_callWV (As := [.int fb, .int (nI 0)]) (rest := []) hx hb hml hown hts hK hP hD rfl hS (c_X0_putWaiting l D cI cJ q n mk lt tg pa an la kn fb fh nb te wt bh fb 0 (by omega) (by omega)) (cwV 2 hts gX0_findText_X0_putWaiting rfl rfl rfl (by decide +kernel) ⟨Nat.le_of_ble_eq_true rfl, Nat.le_of_ble_eq_true rfl⟩) (va_recv hK hP (ci := 0) (q0 := 0) rfl rfl) rfl hl.1 rfl (Nat.le_of_ble_eq_true rfl) dX0_findText_15 ⟨Nat.zero_le _, Nat.zero_le _⟩ (fun v9 w9 H locs hR9 hw9 hP hS => ?_)
  obtain ⟨S1, wt1, rfl, rfl, hSt, hstk⟩ : ∃ (S' : List Nat) (wt' : Nat → Int32), v9 = some (.int (nI S'.length)) ∧ w9 = wX q cI cJ (nI n) mk lt tg pa an la kn fb fh nb te wt' bh ∧ St n fh nb S' (O ++ []) ∧ stk wt' S' := pw_St (S := []) (R := []) hn hR9 hTO rfl trivial (by decide)
  refine lv_istore (lv' := [(6, .int (nI S1.length)), (5, .int (nI 0)), (3, .long (sdX lt tg v n)), (0, .ref (q 0)), (1, .long v)]) hx hb dX0_findText_18 hl (by decide) rfl (fun ls hl => ?_)
  refine lv_iconst (v := nI 0) hx hb dX0_findText_20 (by decide +kernel) ?_
  refine lv_istore (lv' := [(7, .int (nI 0)), (6, .int (nI S1.length)), (5, .int (nI 0)), (3, .long (sdX lt tg v n)), (0, .ref (q 0)), (1, .long v)]) hx hb dX0_findText_21 hl (by decide) rfl (fun ls hl => ?_)
  exact loop 61 0 [] S1 (O ++ []) te wt1 H locs _ (by omega) (by omega) rfl (by simp) hSt hstk (holds_nil te) hP hS (lv_sub hl [4, 5, 3, 2, 1, 0] rfl)
end
section
-- the chain that layList makes
section
variable {n : Nat} {lt tg : Nat → Int32} {v : Int64} {i t : Nat} {bh1 : Nat → Int32} {x1 : Int32}
theorem Ch_s (h : bi v i = false ∨ ins lt i = false) (hC : Ch bh1 x1 (lay (vI lt v) tg i)) : Ch bh1 x1 (lay (vI lt v) tg (i + 1)) := by
  have e : vI lt v i = false := by rcases h with h | h <;> simp [vI, h]
  rw [lay, e]
  exact hC
theorem Ch_t (hn : n ≤ 60) (hc : hang (vI lt v) tg n) (hi : i < n) (h1 : bi v i = true) (h2 : ins lt i = true) (eT : tg i = nI t) (ht : t < n) (hC : Ch bh1 x1 (lay (vI lt v) tg i)) : Ch (upd (upd bh1 i (bh1 t)) t (nI i)) x1 (lay (vI lt v) tg (i + 1)) := by
  have e : vI lt v i = true := by simp [vI, h1, h2]
  have hti : t < i := by
    rcases hc i hi e with q | ⟨t', q1, q2, q3⟩
    · rw [eT] at q; exact absurd q (nI_m1 (by omega))
    · rw [eT] at q2; have := nI_in1 (by omega) (by omega) q2; omega
  rw [lay, if_pos e, eT]
  exact Ch_hang (by omega) (by omega) (by omega) (fun e1 g1 g2 => by rw [pk_un g1, pk_un g2]) pk_us (by rw [pk_un (by omega), pk_us]) x1 _ (lay_nodup (by omega) (hang_le hc (by omega))) (fun q => by have := (lay_mem q).1; omega) (fun y hy => by have := (lay_mem hy).1; omega) hC
theorem Ch_f (hn : n ≤ 60) (hc : hang (vI lt v) tg n) (hi : i < n) (h1 : bi v i = true) (h2 : ins lt i = true) (hv : ev n (tg i) = false) (hC : Ch bh1 x1 (lay (vI lt v) tg i)) : Ch (upd bh1 i x1) (nI i) (lay (vI lt v) tg (i + 1)) := by
  have e : vI lt v i = true := by simp [vI, h1, h2]
  have hm : tg i = -1 := by
    rcases hc i hi e with q | ⟨t', q1, q2, q3⟩
    · exact q
    · rw [q2, ev_nI (by omega) (by omega)] at hv; cases hv
  rw [lay, if_pos e, hm, insA_front]
  exact ⟨rfl, by rw [pk_us]; exact Ch_keep _ _ (fun y hy => pk_un (by have := (lay_mem hy).1; omega)) hC⟩
theorem Ch_pop {R : List Nat} (hC : Ch bh1 x1 R) (h : ev n x1 = true) : ∃ (e0 : Nat) (R2 : List Nat), R = e0 :: R2 ∧ x1 = nI e0 ∧ Ch bh1 (bh1 e0) R2 := by
  cases R with
  | nil => rw [show x1 = -1 from hC, ev_m1] at h; cases h
  | cons e0 R2 => exact ⟨e0, R2, rfl, hC.1, hC.2⟩
theorem Ch_end {R : List Nat} (hn : n < 2 ^ 31) (hC : Ch bh1 x1 R) (hR : ∀ e, e ∈ R → e < n) (h : ev n x1 = false) : R = [] := by
  cases R with
  | nil => rfl
  | cons e0 R2 => rw [hC.1, ev_nI hn (hR e0 List.mem_cons_self)] at h; cases h
end
end
section
-- layList, findTextByList (by gen.py, specB.py)
set_option maxHeartbeats 4000000 in
set_option maxRecDepth 100000 in
theorem c_X0_layList (l : Launch) (D : va_G) (cI cJ : ClassId) (q : Nat → Nat) (n : Nat) (mk lt tg : Nat → Int32) (pa an la kn : Nat → Int64) (fb : Int32) (fh nb te wt bh : Nat → Int32) (v : Int64) (hn : n ≤ 60) (hc : hang (vI lt v) tg n) : eg_MW D (tyL cI cJ) l yX0_layList wsX0_layList ({ frames := 2, cells := 0, slots := 0, locals := 42 }) 0 0 [.ref (q 0), .long v] (wX q cI cJ (nI n) mk lt tg pa an la kn fb fh nb te wt bh) (fun r w1 => ∃ (bh' : Nat → Int32) (x : Int32), r = some (.int x) ∧ w1 = wX q cI cJ (nI n) mk lt tg pa an la kn fb fh nb te wt bh' ∧ Ch bh' x (lay (vI lt v) tg n)) := by
  refine Met.ofW (cc := cX0_layList) (maxL := 6) (ret := (some .int)) (by decide) rfl ?_
  intro p e s m args below meth c s₁ B hml hv
  obtain ⟨rfl, hP, hK, hD0⟩ := hv
  have hx := B.exec
  have hb := B.bytes
  have hr := B.returns
  have hts := atoms_spec (ws := wsX0_layList) B.pre
  have hown : s.vm.findClass RX0 = some m.cls := findClass_of_methodNamed B.named
  have hlocks := B.notSynchronized
  have hD := eg_D_of hD0
  have hS : va_S (eg_A (wX q cI cJ (nI n) mk lt tg pa an la kn fb fh nb te wt bh)) s.heap s.heap [] := va_S.rf
  have hin : ∀ w ∈ u_ws RX0 TX0 14, w ∈ wsX0_layList := by decide +kernel
  have hl := lv_entry ([.ref (q 0), .long v]) (n := 6) (Nat.le_of_ble_eq_true rfl)
  rw [lg_entry_eq]
  generalize (lg_sl ([.ref (q 0), .long v]) ++ List.replicate (6 - (lg_sl ([.ref (q 0), .long v])).length) Slot.unset).toArray = ls at hl ⊢
  have hl : lv_has ls 6 [(0, .ref (q 0)), (1, .long v)] := hl
  generalize h0H : s.heap = H at hP ⊢
  have hS : va_S (eg_A (wX q cI cJ (nI n) mk lt tg pa an la kn fb fh nb te wt bh)) s.heap H [] := by rw [← h0H]; exact hS
  generalize ([] : List Loc) = locs at hS ⊢
  have loop : ∀ (f i : Nat) (x1 : Int32) (bh1 : Nat → Int32) (H : Heap) (locs : List Loc) (ls : Array Slot), n < i + f → i ≤ n → Ch bh1 x1 (lay (vI lt v) tg i) → va_P D vwCl (wX q cI cJ (nI n) mk lt tg pa an la kn fb fh nb te wt bh1) H → va_S (eg_A (wX q cI cJ (nI n) mk lt tg pa an la kn fb fh nb te wt bh)) s.heap H locs → lv_has ls 6 [(0, .ref (q 0)), (1, .long v), (3, .int x1), (4, .int (nI i))] → W p l e (headSpec wsX0_layList ({ frames := 2, cells := 0, slots := 0, locals := 42 })).room s m ([.ref (q 0), .long v] : List Value).toArray below meth c H locs 0 0 (MQ below (eg_Wq D (wX q cI cJ (nI n) mk lt tg pa an la kn fb fh nb te wt bh) (fun r w1 => ∃ (bh' : Nat → Int32) (x : Int32), r = some (.int x) ∧ w1 = wX q cI cJ (nI n) mk lt tg pa an la kn fb fh nb te wt bh' ∧ Ch bh' x (lay (vI lt v) tg n))) ([.ref (q 0), .long v] : List Value).toArray s 0 0 (eg_A (wX q cI cJ (nI n) mk lt tg pa an la kn fb fh nb te wt bh))) (F0 m 5 ls []) := by
    intro f
    induction f with
    | zero => intro i x1 bh1  H locs ls h1 h2 h3 hP hS hl; omega
    | succ f ih =>
      intro i x1 bh1  H locs ls h1 h2 h3 hP hS hl
      have hCh := h3
      refine lv_iload hx hb dX0_layList_5 (lv_at hl 3 rfl) ?_
      refine lv_aload_n hx hb dX0_layList_7 rfl (lv_at hl 0 rfl) ?_
      refine va_get (D := D) (ci := 0) (v := .int (nI n)) (C := RX0) (T := TX0) (N := 14) hx hb hts hin hown hK hP 0 rfl rfl 0 (by decide) (hts (.fieldLink RX0 7 "EditGraph" "eventCount" "I") (by decide +kernel)) (fun _ h9 => h9) rfl dX0_layList_8 ?_
      refine eg_icmp_ge (tgt := 93) hx hb dX0_layList_11 (by decide) (by omega) (by omega) (fun c11 => ?_) (fun c11 => ?_)
      · refine lv_iload_n hx hb dX0_layList_93 rfl (lv_at hl 2 rfl) ?_
        have ein : i = n := by omega
        rw [ein] at hCh
        exact W.iret hx hb hr (fun t9 ht9 _ => ⟨some (.int x1), (wX q cI cJ (nI n) mk lt tg pa an la kn fb fh nb te wt bh1), rfl, ⟨bh1, x1, rfl, rfl, hCh⟩, rfl, by rw [ht9]; exact hP, hS.F ht9⟩) hS.2.2 dX0_layList_94
      · refine lv_lload_n hx hb dX0_layList_14 rfl (lv_at hl 1 rfl) ?_
        refine lv_iload hx hb dX0_layList_15 (lv_at hl 3 rfl) ?_
        refine eg_callS (As := [.long v, .int (nI i)]) (rest := []) hx hb hml hown hts hK (c_X0_has l D cI cJ v i (by omega)) (va_cwS 2 hts gX0_layList_X0_has rfl rfl rfl (by decide +kernel) ⟨Nat.le_of_ble_eq_true rfl, Nat.le_of_ble_eq_true rfl⟩) rfl hl.1 rfl (Nat.le_of_ble_eq_true rfl) dX0_layList_17 ⟨Nat.zero_le _, Nat.zero_le _⟩ ?_
        refine eg_ifeq_b (tgt := 87) hx hb dX0_layList_20 (by decide) (fun c20 => ?_) (fun c20 => ?_)
        · refine lv_iinc (v := nI (i + 1)) (lv' := [(4, .int (nI (i + 1))), (0, .ref (q 0)), (1, .long v), (3, .int x1)]) hx hb dX0_layList_87 hl (k := 3) rfl (eg_inc1 _) (by decide) rfl (fun ls hl => ?_)
          refine lv_goto (tgt := 5) hx hb dX0_layList_90 (by decide) ?_
          exact ih (i + 1) x1 bh1 H locs _ (by omega) (by omega) (Ch_s (by first | exact Or.inl c20 | exact Or.inr c29) hCh) hP hS (lv_sub hl [1, 2, 3, 0] rfl)
        · refine lv_aload_n hx hb dX0_layList_23 rfl (lv_at hl 0 rfl) ?_
          refine lv_iload hx hb dX0_layList_24 (lv_at hl 3 rfl) ?_
          refine eg_callV (As := [.int (nI i)]) (rest := []) hx hb hml hown hts hK hP (c_X0_isInsert l D cI cJ q n mk lt tg pa an la kn fb fh nb te wt bh1 i (by omega)) (cwV 1 hts gX0_layList_X0_isInsert rfl rfl rfl (by decide +kernel) ⟨Nat.le_of_ble_eq_true rfl, Nat.le_of_ble_eq_true rfl⟩) (va_recv hK hP (ci := 0) (q0 := 0) rfl rfl) rfl hl.1 rfl (Nat.le_of_ble_eq_true rfl) dX0_layList_26 ⟨Nat.zero_le _, Nat.zero_le _⟩ ?_
          refine eg_ifeq_b (tgt := 87) hx hb dX0_layList_29 (by decide) (fun c29 => ?_) (fun c29 => ?_)
          · refine lv_iinc (v := nI (i + 1)) (lv' := [(4, .int (nI (i + 1))), (0, .ref (q 0)), (1, .long v), (3, .int x1)]) hx hb dX0_layList_87 hl (k := 3) rfl (eg_inc1 _) (by decide) rfl (fun ls hl => ?_)
            refine lv_goto (tgt := 5) hx hb dX0_layList_90 (by decide) ?_
            exact ih (i + 1) x1 bh1 H locs _ (by omega) (by omega) (Ch_s (by first | exact Or.inl c20 | exact Or.inr c29) hCh) hP hS (lv_sub hl [1, 2, 3, 0] rfl)
          · refine lv_aload_n hx hb dX0_layList_32 rfl (lv_at hl 0 rfl) ?_
            refine va_get (D := D) (ci := 0) (v := .ref (q 3)) (C := RX0) (T := TX0) (N := 14) hx hb hts hin hown hK hP 0 rfl rfl 3 (by decide) (hts (.fieldLink RX0 20 "EditGraph" "targets" "[I") (by decide +kernel)) (fun _ h9 => h9) rfl dX0_layList_33 ?_
            refine lv_iload hx hb dX0_layList_36 (lv_at hl 3 rfl) ?_
            refine eg_iald hx hb hK hP 3 0 rfl rfl (by omega) (by decide) dX0_layList_38 ?_
            refine lv_istore (lv' := [(5, .int (tg i)), (0, .ref (q 0)), (1, .long v), (3, .int x1), (4, .int (nI i))]) hx hb dX0_layList_39 hl (by decide) rfl (fun ls hl => ?_)
            refine lv_aload_n hx hb dX0_layList_41 rfl (lv_at hl 1 rfl) ?_
            refine lv_iload hx hb dX0_layList_42 (lv_at hl 0 rfl) ?_
            refine eg_callV (As := [.int (tg i)]) (rest := []) hx hb hml hown hts hK hP (c_X0_isEvent l D cI cJ q n mk lt tg pa an la kn fb fh nb te wt bh1 (tg i) ) (cwV 1 hts gX0_layList_X0_isEvent rfl rfl rfl (by decide +kernel) ⟨Nat.le_of_ble_eq_true rfl, Nat.le_of_ble_eq_true rfl⟩) (va_recv hK hP (ci := 0) (q0 := 0) rfl rfl) rfl hl.1 rfl (Nat.le_of_ble_eq_true rfl) dX0_layList_44 ⟨Nat.zero_le _, Nat.zero_le _⟩ ?_
            refine eg_ifeq_b (tgt := 76) hx hb dX0_layList_47 (by decide) (fun c47 => ?_) (fun c47 => ?_)
            · refine lv_aload_n hx hb dX0_layList_76 rfl (lv_at hl 1 rfl) ?_
              refine va_get (D := D) (ci := 0) (v := .ref (q 12)) (C := RX0) (T := TX0) (N := 14) hx hb hts hin hown hK hP 0 rfl rfl 13 (by decide) (hts (.fieldLink RX0 51 "EditGraph" "behind" "[I") (by decide +kernel)) (fun _ h9 => h9) rfl dX0_layList_77 ?_
              refine lv_iload hx hb dX0_layList_80 (lv_at hl 4 rfl) ?_
              refine lv_iload_n hx hb dX0_layList_82 rfl (lv_at hl 3 rfl) ?_
              refine eg_iast hx hb hK hP hD rfl hS 12 0 rfl rfl (by omega) (by decide) dX0_layList_83 (w' := wX q cI cJ (nI n) mk lt tg pa an la kn fb fh nb te wt (upd bh1 i x1)) rfl (fun H locs hP hS => ?_)
              refine lv_iload hx hb dX0_layList_84 (lv_at hl 4 rfl) ?_
              refine lv_istore_n (lv' := [(3, .int (nI i)), (5, .int (tg i)), (0, .ref (q 0)), (1, .long v), (4, .int (nI i))]) hx hb dX0_layList_86 rfl hl (by decide) rfl (fun ls hl => ?_)
              refine lv_iinc (v := nI (i + 1)) (lv' := [(4, .int (nI (i + 1))), (3, .int (nI i)), (5, .int (tg i)), (0, .ref (q 0)), (1, .long v)]) hx hb dX0_layList_87 hl (k := 4) rfl (eg_inc1 _) (by decide) rfl (fun ls hl => ?_)
              refine lv_goto (tgt := 5) hx hb dX0_layList_90 (by decide) ?_
              exact ih (i + 1) (nI i) (upd bh1 i x1) H locs _ (by omega) (by omega) (Ch_f hn hc (by omega) c20 c29 c47 hCh) hP hS (lv_sub hl [3, 4, 1, 0] rfl)
            · obtain ⟨t, htn, eT⟩ := ev_of (by omega) c47
              have hl : lv_has ls 6 [(5, .int (nI t)), (0, .ref (q 0)), (1, .long v), (3, .int x1), (4, .int (nI i))] := by rw [← eT]; exact hl
              refine lv_aload_n hx hb dX0_layList_50 rfl (lv_at hl 1 rfl) ?_
              refine va_get (D := D) (ci := 0) (v := .ref (q 12)) (C := RX0) (T := TX0) (N := 14) hx hb hts hin hown hK hP 0 rfl rfl 13 (by decide) (hts (.fieldLink RX0 51 "EditGraph" "behind" "[I") (by decide +kernel)) (fun _ h9 => h9) rfl dX0_layList_51 ?_
              refine lv_iload hx hb dX0_layList_54 (lv_at hl 4 rfl) ?_
              refine lv_aload_n hx hb dX0_layList_56 rfl (lv_at hl 1 rfl) ?_
              refine va_get (D := D) (ci := 0) (v := .ref (q 12)) (C := RX0) (T := TX0) (N := 14) hx hb hts hin hown hK hP 0 rfl rfl 13 (by decide) (hts (.fieldLink RX0 51 "EditGraph" "behind" "[I") (by decide +kernel)) (fun _ h9 => h9) rfl dX0_layList_57 ?_
              refine lv_iload hx hb dX0_layList_60 (lv_at hl 0 rfl) ?_
              refine eg_iald hx hb hK hP 12 0 rfl rfl (by omega) (by decide) dX0_layList_62 ?_
              refine eg_iast hx hb hK hP hD rfl hS 12 0 rfl rfl (by omega) (by decide) dX0_layList_63 (w' := wX q cI cJ (nI n) mk lt tg pa an la kn fb fh nb te wt (upd bh1 i (bh1 t))) rfl (fun H locs hP hS => ?_)
              refine lv_aload_n hx hb dX0_layList_64 rfl (lv_at hl 1 rfl) ?_
              refine va_get (D := D) (ci := 0) (v := .ref (q 12)) (C := RX0) (T := TX0) (N := 14) hx hb hts hin hown hK hP 0 rfl rfl 13 (by decide) (hts (.fieldLink RX0 51 "EditGraph" "behind" "[I") (by decide +kernel)) (fun _ h9 => h9) rfl dX0_layList_65 ?_
              refine lv_iload hx hb dX0_layList_68 (lv_at hl 0 rfl) ?_
              refine lv_iload hx hb dX0_layList_70 (lv_at hl 4 rfl) ?_
              refine eg_iast hx hb hK hP hD rfl hS 12 0 rfl rfl (by omega) (by decide) dX0_layList_72 (w' := wX q cI cJ (nI n) mk lt tg pa an la kn fb fh nb te wt (upd (upd bh1 i (bh1 t)) t (nI i))) rfl (fun H locs hP hS => ?_)
              refine lv_goto (tgt := 87) hx hb dX0_layList_73 (by decide) ?_
              refine lv_iinc (v := nI (i + 1)) (lv' := [(4, .int (nI (i + 1))), (5, .int (nI t)), (0, .ref (q 0)), (1, .long v), (3, .int x1)]) hx hb dX0_layList_87 hl (k := 4) rfl (eg_inc1 _) (by decide) rfl (fun ls hl => ?_)
              refine lv_goto (tgt := 5) hx hb dX0_layList_90 (by decide) ?_
              exact ih (i + 1) x1 (upd (upd bh1 i (bh1 t)) t (nI i)) H locs _ (by omega) (by omega) (Ch_t hn hc (by omega) c20 c29 eT htn hCh) hP hS (lv_sub hl [2, 3, 4, 0] rfl)
  refine lv_iconst (v := (-1)) hx hb dX0_layList_0 (by decide +kernel) ?_
  refine lv_istore_n (lv' := [(3, .int (-1)), (0, .ref (q 0)), (1, .long v)]) hx hb dX0_layList_1 rfl hl (by decide) rfl (fun ls hl => ?_)
  refine lv_iconst (v := nI 0) hx hb dX0_layList_2 (by decide +kernel) ?_
  refine lv_istore (lv' := [(4, .int (nI 0)), (3, .int (-1)), (0, .ref (q 0)), (1, .long v)]) hx hb dX0_layList_3 hl (by decide) rfl (fun ls hl => ?_)
  exact loop (n + 1) 0 (-1) bh H locs _ (by omega) (by omega) rfl hP hS (lv_sub hl [2, 3, 1, 0] rfl)
set_option maxHeartbeats 4000000 in
set_option maxRecDepth 100000 in
theorem c_X0_findTextByList (l : Launch) (D : va_G) (cI cJ : ClassId) (q : Nat → Nat) (n : Nat) (mk lt tg : Nat → Int32) (pa an la kn : Nat → Int64) (fb : Int32) (fh nb te wt bh : Nat → Int32) (v : Int64) (hn : n ≤ 60) (hdl : ∀ k, k < n → bi v k = true → lt k = -1 → ∃ t, t < n ∧ tg k = nI t) (hc : hang (vI lt v) tg n) : eg_MW D (tyL cI cJ) l yX0_findTextByList wsX0_findTextByList ({ frames := 3, cells := 0, slots := 0, locals := 69 }) 0 0 [.ref (q 0), .long v] (wX q cI cJ (nI n) mk lt tg pa an la kn fb fh nb te wt bh) (fun r w1 => ∃ (te' bh' : Nat → Int32), r = some (.int (nI ((lay (vI lt v) tg n).filter (bi (sdX lt tg v n))).length)) ∧ w1 = wX q cI cJ (nI n) mk lt tg pa an la kn fb fh nb te' wt bh' ∧ holds te' ((lay (vI lt v) tg n).filter (bi (sdX lt tg v n)))) := by
  have hln : (lay (vI lt v) tg n).length ≤ n := lay_len n (lay_nodup (by omega) hc)
  refine Met.ofW (cc := cX0_findTextByList) (maxL := 8) (ret := (some .int)) (by decide) rfl ?_
  intro p e s m args below meth c s₁ B hml hv
  obtain ⟨rfl, hP, hK, hD0⟩ := hv
  have hx := B.exec
  have hb := B.bytes
  have hr := B.returns
  have hts := atoms_spec (ws := wsX0_findTextByList) B.pre
  have hown : s.vm.findClass RX0 = some m.cls := findClass_of_methodNamed B.named
  have hlocks := B.notSynchronized
  have hD := eg_D_of hD0
  have hS : va_S (eg_A (wX q cI cJ (nI n) mk lt tg pa an la kn fb fh nb te wt bh)) s.heap s.heap [] := va_S.rf
  have hin : ∀ w ∈ u_ws RX0 TX0 14, w ∈ wsX0_findTextByList := by decide +kernel
  have hl := lv_entry ([.ref (q 0), .long v]) (n := 8) (Nat.le_of_ble_eq_true rfl)
  rw [lg_entry_eq]
  generalize (lg_sl ([.ref (q 0), .long v]) ++ List.replicate (8 - (lg_sl ([.ref (q 0), .long v])).length) Slot.unset).toArray = ls at hl ⊢
  have hl : lv_has ls 8 [(0, .ref (q 0)), (1, .long v)] := hl
  generalize h0H : s.heap = H at hP ⊢
  have hS : va_S (eg_A (wX q cI cJ (nI n) mk lt tg pa an la kn fb fh nb te wt bh)) s.heap H [] := by rw [← h0H]; exact hS
  generalize ([] : List Loc) = locs at hS ⊢
  have loop : ∀ (f i : Nat) (E R : List Nat) (x1 : Int32) (te1 bh1 : Nat → Int32) (H : Heap) (locs : List Loc) (ls : Array Slot), 60 < i + f → i ≤ 60 → E.length = i → E ++ R = (lay (vI lt v) tg n) → Ch bh1 x1 R → holds te1 (E.filter (bi (sdX lt tg v n))) → va_P D vwCl (wX q cI cJ (nI n) mk lt tg pa an la kn fb fh nb te1 wt bh1) H → va_S (eg_A (wX q cI cJ (nI n) mk lt tg pa an la kn fb fh nb te wt bh)) s.heap H locs → lv_has ls 8 [(0, .ref (q 0)), (1, .long v), (3, .long (sdX lt tg v n)), (5, .int (nI ((E.filter (bi (sdX lt tg v n))).length))), (6, .int x1), (7, .int (nI i))] → W p l e (headSpec wsX0_findTextByList ({ frames := 3, cells := 0, slots := 0, locals := 69 })).room s m ([.ref (q 0), .long v] : List Value).toArray below meth c H locs 0 0 (MQ below (eg_Wq D (wX q cI cJ (nI n) mk lt tg pa an la kn fb fh nb te wt bh) (fun r w1 => ∃ (te' bh' : Nat → Int32), r = some (.int (nI ((lay (vI lt v) tg n).filter (bi (sdX lt tg v n))).length)) ∧ w1 = wX q cI cJ (nI n) mk lt tg pa an la kn fb fh nb te' wt bh' ∧ holds te' ((lay (vI lt v) tg n).filter (bi (sdX lt tg v n))))) ([.ref (q 0), .long v] : List Value).toArray s 0 0 (eg_A (wX q cI cJ (nI n) mk lt tg pa an la kn fb fh nb te wt bh))) (F0 m 19 ls []) := by
    intro f
    induction f with
    | zero => intro i E R x1 te1 bh1  H locs ls h1 h2 h3 h4 h5 h6 hP hS hl; omega
    | succ f ih =>
      intro i E R x1 te1 bh1  H locs ls h1 h2 h3 h4 h5 h6 hP hS hl
      have hEi := h3
      have hER := h4
      have hCh := h5
      have hhold := h6
      have hfl := flen (z := (sdX lt tg v n)) E
      have hOl0 : E.length + R.length = (lay (vI lt v) tg n).length := by rw [← hER, List.length_append]
      have hRn : ∀ e, e ∈ R → e < n := fun e he => (lay_mem (by rw [← hER]; exact List.mem_append_right _ he)).1
      refine lv_iload hx hb dX0_findTextByList_19 (lv_at hl 5 rfl) ?_
      refine lv_bipush (v := nI 60) hx hb dX0_findTextByList_21 (by decide +kernel) ?_
      refine eg_icmp_ge (tgt := 61) hx hb dX0_findTextByList_23 (by decide) (by omega) (by omega) (fun c23 => ?_) (fun c23 => ?_)
      · refine lv_iload hx hb dX0_findTextByList_61 (lv_at hl 3 rfl) ?_
        have hEO : E = (lay (vI lt v) tg n) := by
          have hR0 : R = [] := by
            first
            | (have hc := c32; exact Ch_end (by omega) hCh hRn hc)
            | (have hc := c23; exact List.length_eq_zero_iff.mp (by omega))
          rw [← hER, hR0, List.append_nil]
        rw [hEO] at hhold
        exact W.iret hx hb hr (fun t9 ht9 _ => ⟨some (.int (nI (E.filter (bi (sdX lt tg v n))).length)), (wX q cI cJ (nI n) mk lt tg pa an la kn fb fh nb te1 wt bh1), rfl, ⟨te1, bh1, by rw [hEO], rfl, hhold⟩, rfl, by rw [ht9]; exact hP, hS.F ht9⟩) hS.2.2 dX0_findTextByList_63
      · refine lv_aload_n hx hb dX0_findTextByList_26 rfl (lv_at hl 0 rfl) ?_
        refine lv_iload hx hb dX0_findTextByList_27 (lv_at hl 4 rfl) ?_
        refine eg_callV (As := [.int x1]) (rest := []) hx hb hml hown hts hK hP (c_X0_isEvent l D cI cJ q n mk lt tg pa an la kn fb fh nb te1 wt bh1 x1 ) (cwV 1 hts gX0_findTextByList_X0_isEvent rfl rfl rfl (by decide +kernel) ⟨Nat.le_of_ble_eq_true rfl, Nat.le_of_ble_eq_true rfl⟩) (va_recv hK hP (ci := 0) (q0 := 0) rfl rfl) rfl hl.1 rfl (Nat.le_of_ble_eq_true rfl) dX0_findTextByList_29 ⟨Nat.zero_le _, Nat.zero_le _⟩ ?_
        refine eg_ifeq_b (tgt := 61) hx hb dX0_findTextByList_32 (by decide) (fun c32 => ?_) (fun c32 => ?_)
        · refine lv_iload hx hb dX0_findTextByList_61 (lv_at hl 3 rfl) ?_
          have hEO : E = (lay (vI lt v) tg n) := by
            have hR0 : R = [] := by
              first
              | (have hc := c32; exact Ch_end (by omega) hCh hRn hc)
              | (have hc := c23; exact List.length_eq_zero_iff.mp (by omega))
            rw [← hER, hR0, List.append_nil]
          rw [hEO] at hhold
          exact W.iret hx hb hr (fun t9 ht9 _ => ⟨some (.int (nI (E.filter (bi (sdX lt tg v n))).length)), (wX q cI cJ (nI n) mk lt tg pa an la kn fb fh nb te1 wt bh1), rfl, ⟨te1, bh1, by rw [hEO], rfl, hhold⟩, rfl, by rw [ht9]; exact hP, hS.F ht9⟩) hS.2.2 dX0_findTextByList_63
        · obtain ⟨e0, R2, rfl, rfl, hCh2⟩ := Ch_pop hCh c32
          have he0 : e0 < n := hRn e0 List.mem_cons_self
          have hfl := flen (z := (sdX lt tg v n)) E
          refine lv_aload_n hx hb dX0_findTextByList_35 rfl (lv_at hl 0 rfl) ?_
          refine lv_lload_n hx hb dX0_findTextByList_36 rfl (lv_at hl 2 rfl) ?_
          refine lv_iload hx hb dX0_findTextByList_37 (lv_at hl 4 rfl) ?_
          refine lv_iload hx hb dX0_findTextByList_39 (lv_at hl 3 rfl) ?_
          refine eg_callWV (As := [.long (sdX lt tg v n), .int (nI e0), .int (nI ((E.filter (bi (sdX lt tg v n))).length))]) (rest := []) hx hb hml hown hts hK hP hD rfl hS (c_X0_putText l D cI cJ q n mk lt tg pa an la kn fb fh nb te1 wt bh1 (sdX lt tg v n) e0 (E.filter (bi (sdX lt tg v n))).length (by omega) (by omega)) (cwV 3 hts gX0_findTextByList_X0_putText rfl rfl rfl (by decide +kernel) ⟨Nat.le_of_ble_eq_true rfl, Nat.le_of_ble_eq_true rfl⟩) (va_recv hK hP (ci := 0) (q0 := 0) rfl rfl) rfl hl.1 rfl (Nat.le_of_ble_eq_true rfl) dX0_findTextByList_41 ⟨Nat.zero_le _, Nat.zero_le _⟩ (fun v9 w9 H locs hR9 hw9 hP hS => ?_)
          obtain ⟨te2, rfl, rfl, hhold2⟩ := pt_holds hR9 hhold (by omega)
          refine lv_istore (lv' := [(5, .int (nI (((E ++ [e0]).filter (bi (sdX lt tg v n))).length))), (0, .ref (q 0)), (1, .long v), (3, .long (sdX lt tg v n)), (6, .int (nI e0)), (7, .int (nI i))]) hx hb dX0_findTextByList_44 hl (by decide) rfl (fun ls hl => ?_)
          refine lv_aload_n hx hb dX0_findTextByList_46 rfl (lv_at hl 1 rfl) ?_
          refine va_get (D := D) (ci := 0) (v := .ref (q 12)) (C := RX0) (T := TX0) (N := 14) hx hb hts hin hown hK hP 0 rfl rfl 13 (by decide) (hts (.fieldLink RX0 51 "EditGraph" "behind" "[I") (by decide +kernel)) (fun _ h9 => h9) rfl dX0_findTextByList_47 ?_
          refine lv_iload hx hb dX0_findTextByList_50 (lv_at hl 4 rfl) ?_
          refine eg_iald hx hb hK hP 12 0 rfl rfl (by omega) (by decide) dX0_findTextByList_52 ?_
          refine lv_istore (lv' := [(6, .int (bh1 e0)), (5, .int (nI (((E ++ [e0]).filter (bi (sdX lt tg v n))).length))), (0, .ref (q 0)), (1, .long v), (3, .long (sdX lt tg v n)), (7, .int (nI i))]) hx hb dX0_findTextByList_53 hl (by decide) rfl (fun ls hl => ?_)
          refine lv_iinc (v := nI (i + 1)) (lv' := [(7, .int (nI (i + 1))), (6, .int (bh1 e0)), (5, .int (nI (((E ++ [e0]).filter (bi (sdX lt tg v n))).length))), (0, .ref (q 0)), (1, .long v), (3, .long (sdX lt tg v n))]) hx hb dX0_findTextByList_55 hl (k := 5) rfl (eg_inc1 _) (by decide) rfl (fun ls hl => ?_)
          refine lv_goto (tgt := 19) hx hb dX0_findTextByList_58 (by decide) ?_
          exact ih (i + 1) (E ++ [e0]) R2 (bh1 e0) te2 bh1 H locs _ (by omega) (by omega) (by rw [List.length_append, hEi]; rfl) (by rw [← hER, List.append_assoc]; rfl) hCh2 hhold2 hP hS (lv_sub hl [3, 4, 5, 2, 1, 0] rfl)
  refine lv_aload_n hx hb dX0_findTextByList_0 rfl (lv_at hl 0 rfl) ?_
  refine lv_lload_n hx hb dX0_findTextByList_1 rfl (lv_at hl 1 rfl) ?_
  refine eg_callV (As := [.long v]) (rest := []) hx hb hml hown hts hK hP (c_X0_standingIn l D cI cJ q n mk lt tg pa an la kn fb fh nb te wt bh v (by omega) hdl) (cwV 1 hts gX0_findTextByList_X0_standingIn rfl rfl rfl (by decide +kernel) ⟨Nat.le_of_ble_eq_true rfl, Nat.le_of_ble_eq_true rfl⟩) (va_recv hK hP (ci := 0) (q0 := 0) rfl rfl) rfl hl.1 rfl (Nat.le_of_ble_eq_true rfl) dX0_findTextByList_2 ⟨Nat.zero_le _, Nat.zero_le _⟩ ?_
  refine lv_lstore_n (lv' := [(3, .long (sdX lt tg v n)), (0, .ref (q 0)), (1, .long v)]) hx hb dX0_findTextByList_5 rfl hl (by decide) rfl (fun ls hl => ?_)
  refine lv_iconst (v := nI 0) hx hb dX0_findTextByList_6 (by decide +kernel) ?_
  refine lv_istore (lv' := [(5, .int (nI 0)), (3, .long (sdX lt tg v n)), (0, .ref (q 0)), (1, .long v)]) hx hb dX0_findTextByList_7 hl (by decide) rfl (fun ls hl => ?_)
  refine lv_aload_n hx hb dX0_findTextByList_9 rfl (lv_at hl 2 rfl) ?_
  refine lv_lload_n hx hb dX0_findTextByList_10 rfl (lv_at hl 3 rfl) ?_
  refine eg_callWV (As := [.long v]) (rest := []) hx hb hml hown hts hK hP hD rfl hS (c_X0_layList l D cI cJ q n mk lt tg pa an la kn fb fh nb te wt bh v hn hc) (cwV 1 hts gX0_findTextByList_X0_layList rfl rfl rfl (by decide +kernel) ⟨Nat.le_of_ble_eq_true rfl, Nat.le_of_ble_eq_true rfl⟩) (va_recv hK hP (ci := 0) (q0 := 0) rfl rfl) rfl hl.1 rfl (Nat.le_of_ble_eq_true rfl) dX0_findTextByList_11 ⟨Nat.zero_le _, Nat.zero_le _⟩ (fun v9 w9 H locs hR9 hw9 hP hS => ?_)
  obtain ⟨bh1, x0, rfl, rfl, hCh0⟩ := hR9
  refine lv_istore (lv' := [(6, .int x0), (5, .int (nI 0)), (3, .long (sdX lt tg v n)), (0, .ref (q 0)), (1, .long v)]) hx hb dX0_findTextByList_14 hl (by decide) rfl (fun ls hl => ?_)
  refine lv_iconst (v := nI 0) hx hb dX0_findTextByList_16 (by decide +kernel) ?_
  refine lv_istore (lv' := [(7, .int (nI 0)), (6, .int x0), (5, .int (nI 0)), (3, .long (sdX lt tg v n)), (0, .ref (q 0)), (1, .long v)]) hx hb dX0_findTextByList_17 hl (by decide) rfl (fun ls hl => ?_)
  exact loop 61 0 [] (lay (vI lt v) tg n) x0 te bh1 H locs _ (by omega) (by omega) rfl rfl hCh0 (holds_nil te) hP hS (lv_sub hl [4, 5, 3, 2, 1, 0] rfl)
end
section
-- the words of the class's three throws
theorem hat_130 {args : Array Value} {s : State} (hg : ∀ w ∈ (vx_atS RX0 130 "java/lang/IndexOutOfBoundsException" ["java/lang/RuntimeException", "java/lang/Exception"]).filter goodWord, w.before args s = true) (hN : eg_N s) : ∀ w ∈ vx_atS RX0 130 "java/lang/IndexOutOfBoundsException" ["java/lang/RuntimeException", "java/lang/Exception"], w.before args s = true := vx_hat (B := [.declares ⟨"java/lang/RuntimeException", "<init>", "(Ljava/lang/String;)V"⟩, .declares ⟨"java/lang/Exception", "<init>", "(Ljava/lang/String;)V"⟩, .declares ⟨"java/lang/Throwable", "<init>", "(Ljava/lang/String;)V"⟩, .castable "java/lang/IndexOutOfBoundsException" "java/lang/IndexOutOfBoundsException"]) hg (by decide +kernel) (vx_c (va_Nw.use rfl hN.1) (vx_c (va_Nw.use rfl hN.2.1) (vx_c (va_Nw.use rfl hN.2.2.1) (vx_c (va_Nw.use rfl hN.2.2.2.1) vx_n))))
theorem hat_142 {args : Array Value} {s : State} (hg : ∀ w ∈ (vx_atS RX0 142 "java/lang/IllegalStateException" ["java/lang/RuntimeException", "java/lang/Exception"]).filter goodWord, w.before args s = true) (hN : eg_N s) : ∀ w ∈ vx_atS RX0 142 "java/lang/IllegalStateException" ["java/lang/RuntimeException", "java/lang/Exception"], w.before args s = true := vx_hat (B := [.declares ⟨"java/lang/RuntimeException", "<init>", "(Ljava/lang/String;)V"⟩, .declares ⟨"java/lang/Exception", "<init>", "(Ljava/lang/String;)V"⟩, .declares ⟨"java/lang/Throwable", "<init>", "(Ljava/lang/String;)V"⟩, .castable "java/lang/IllegalStateException" "java/lang/IllegalStateException"]) hg (by decide +kernel) (vx_c (va_Nw.use rfl hN.1) (vx_c (va_Nw.use rfl hN.2.1) (vx_c (va_Nw.use rfl hN.2.2.1) (vx_c (va_Nw.use rfl hN.2.2.2.2.2.1) vx_n))))
theorem hat_70 {args : Array Value} {s : State} (hg : ∀ w ∈ (vx_atS RX0 70 "java/lang/IllegalArgumentException" ["java/lang/RuntimeException", "java/lang/Exception"]).filter goodWord, w.before args s = true) (hN : eg_N s) : ∀ w ∈ vx_atS RX0 70 "java/lang/IllegalArgumentException" ["java/lang/RuntimeException", "java/lang/Exception"], w.before args s = true := vx_hat (B := [.declares ⟨"java/lang/RuntimeException", "<init>", "(Ljava/lang/String;)V"⟩, .declares ⟨"java/lang/Exception", "<init>", "(Ljava/lang/String;)V"⟩, .declares ⟨"java/lang/Throwable", "<init>", "(Ljava/lang/String;)V"⟩, .castable "java/lang/IllegalArgumentException" "java/lang/IllegalArgumentException"]) hg (by decide +kernel) (vx_c (va_Nw.use rfl hN.1) (vx_c (va_Nw.use rfl hN.2.1) (vx_c (va_Nw.use rfl hN.2.2.1) (vx_c (va_Nw.use rfl hN.2.2.2.2.1) vx_n))))
theorem ot_130 : ∀ w ∈ Cond.classLink RX0 126 "java/lang/IndexOutOfBoundsException" :: Cond.initialized "java/lang/IndexOutOfBoundsException" :: vx_atS RX0 130 "java/lang/IndexOutOfBoundsException" ["java/lang/RuntimeException", "java/lang/Exception"], vx_ot w = true := by decide +kernel
theorem ot_142 : ∀ w ∈ Cond.classLink RX0 138 "java/lang/IllegalStateException" :: Cond.initialized "java/lang/IllegalStateException" :: vx_atS RX0 142 "java/lang/IllegalStateException" ["java/lang/RuntimeException", "java/lang/Exception"], vx_ot w = true := by decide +kernel
theorem ot_70 : ∀ w ∈ Cond.classLink RX0 66 "java/lang/IllegalArgumentException" :: Cond.initialized "java/lang/IllegalArgumentException" :: vx_atS RX0 70 "java/lang/IllegalArgumentException" ["java/lang/RuntimeException", "java/lang/Exception"], vx_ot w = true := by decide +kernel
/-- no such author, event, place -/
def bad (n : Nat) (x : Int32) : Prop := x < 0 ∨ nI n ≤ x
theorem bad_or {n : Nat} (x : Int32) (hn : n < 2 ^ 31) : bad n x ∨ ∃ i, i < n ∧ x = nI i := by
  by_cases h : x < 0
  · exact Or.inl (Or.inl h)
  · by_cases h2 : nI n ≤ x
    · exact Or.inl (Or.inr h2)
    · exact Or.inr (ev_of hn (ev_t h h2))
theorem bad_ev {n : Nat} {x : Int32} (h : bad n x) : ev n x = false := by
  rcases h with h | h
  · exact ev_f1 h
  · exact ev_f2 h
theorem bad_not {n : Nat} {x : Int32} (h : bad n x) (h1 : ¬ x < 0) : ¬ x < nI n := by
  rcases h with h | h
  · exact absurd h h1
  · rw [Int32.lt_iff_toInt_lt]; rw [Int32.le_iff_toInt_le] at h; omega
end
section
-- the checks, passing and throwing (by gen.py, specC.py)
set_option maxHeartbeats 4000000 in
set_option maxRecDepth 100000 in
theorem c_X0_checkAuthor (l : Launch) (D : va_G) (cI cJ : ClassId) (q : Nat → Nat) (n : Nat) (mk lt tg : Nat → Int32) (pa an la kn : Nat → Int64) (fb : Int32) (fh nb te wt bh : Nat → Int32) (a : Nat) (ha : a < 4) : eg_MR D (tyL cI cJ) l yX0_checkAuthor wsX0_checkAuthor ({ frames := 0, cells := 0, slots := 0, locals := 0 }) [.ref (q 0), .int (nI a)] (wX q cI cJ (nI n) mk lt tg pa an la kn fb fh nb te wt bh) (none) := by
  refine Met.ofW (cc := cX0_checkAuthor) (maxL := 2) (ret := none) (by decide) rfl ?_
  intro p e s m args below meth c s₁ B hml hv
  obtain ⟨rfl, hP, hK⟩ := hv
  have hx := B.exec
  have hb := B.bytes
  have hr := B.returns
  have hts := atoms_spec (ws := wsX0_checkAuthor) B.pre
  have hown : s.vm.findClass RX0 = some m.cls := findClass_of_methodNamed B.named
  have hlocks := B.notSynchronized
  have hl := lv_entry ([.ref (q 0), .int (nI a)]) (n := 2) (Nat.le_of_ble_eq_true rfl)
  rw [lg_entry_eq]
  generalize (lg_sl ([.ref (q 0), .int (nI a)]) ++ List.replicate (2 - (lg_sl ([.ref (q 0), .int (nI a)])).length) Slot.unset).toArray = ls at hl ⊢
  have hl : lv_has ls 2 [(0, .ref (q 0)), (1, .int (nI a))] := hl
  refine lv_iload_n hx hb dX0_checkAuthor_0 rfl (lv_at hl 1 rfl) ?_
  refine eg_if_lt (tgt := 9) hx hb dX0_checkAuthor_1 (by decide) (by omega) ?_
  refine lv_iload_n hx hb dX0_checkAuthor_4 rfl (lv_at hl 1 rfl) ?_
  refine lv_iconst (v := nI 4) hx hb dX0_checkAuthor_5 (by decide +kernel) ?_
  refine eg_icmp_lt (tgt := 19) hx hb dX0_checkAuthor_6 (by decide) (by omega) (by omega) (fun c6 => ?_) (fun c6 => ?_)
  · exact W.vret hx hb hr (fun t9 ht9 _ => ⟨rfl, ht9⟩) (fun q h => nomatch h) dX0_checkAuthor_19
  · omega
set_option maxHeartbeats 4000000 in
set_option maxRecDepth 100000 in
theorem c_X0_checkEvent (l : Launch) (D : va_G) (cI cJ : ClassId) (q : Nat → Nat) (n : Nat) (mk lt tg : Nat → Int32) (pa an la kn : Nat → Int64) (fb : Int32) (fh nb te wt bh : Nat → Int32) (e0 : Nat) (hn : n ≤ 60) (he : e0 < n) : eg_MR D (tyL cI cJ) l yX0_checkEvent wsX0_checkEvent ({ frames := 1, cells := 0, slots := 0, locals := 21 }) [.ref (q 0), .int (nI e0)] (wX q cI cJ (nI n) mk lt tg pa an la kn fb fh nb te wt bh) (none) := by
  refine Met.ofW (cc := cX0_checkEvent) (maxL := 2) (ret := none) (by decide) rfl ?_
  intro p e s m args below meth c s₁ B hml hv
  obtain ⟨rfl, hP, hK⟩ := hv
  have hx := B.exec
  have hb := B.bytes
  have hr := B.returns
  have hts := atoms_spec (ws := wsX0_checkEvent) B.pre
  have hown : s.vm.findClass RX0 = some m.cls := findClass_of_methodNamed B.named
  have hlocks := B.notSynchronized
  have hl := lv_entry ([.ref (q 0), .int (nI e0)]) (n := 2) (Nat.le_of_ble_eq_true rfl)
  rw [lg_entry_eq]
  generalize (lg_sl ([.ref (q 0), .int (nI e0)]) ++ List.replicate (2 - (lg_sl ([.ref (q 0), .int (nI e0)])).length) Slot.unset).toArray = ls at hl ⊢
  have hl : lv_has ls 2 [(0, .ref (q 0)), (1, .int (nI e0))] := hl
  refine lv_aload_n hx hb dX0_checkEvent_0 rfl (lv_at hl 0 rfl) ?_
  refine lv_iload_n hx hb dX0_checkEvent_1 rfl (lv_at hl 1 rfl) ?_
  refine eg_callV (As := [.int (nI e0)]) (rest := []) hx hb hml hown hts hK hP (c_X0_isEvent l D cI cJ q n mk lt tg pa an la kn fb fh nb te wt bh (nI e0) ) (cwV 1 hts gX0_checkEvent_X0_isEvent rfl rfl rfl (by decide +kernel) ⟨Nat.le_of_ble_eq_true rfl, Nat.le_of_ble_eq_true rfl⟩) (va_recv hK hP (ci := 0) (q0 := 0) rfl rfl) rfl hl.1 rfl (Nat.le_of_ble_eq_true rfl) dX0_checkEvent_2 ⟨Nat.zero_le _, Nat.zero_le _⟩ ?_
  refine eg_ifne_b (tgt := 18) hx hb dX0_checkEvent_5 (by decide) (fun c5 => ?_) (fun c5 => ?_)
  · exact W.vret hx hb hr (fun t9 ht9 _ => ⟨rfl, ht9⟩) (fun q h => nomatch h) dX0_checkEvent_18
  · rw [ev_nI (by omega) he] at c5; cases c5
set_option maxHeartbeats 4000000 in
set_option maxRecDepth 100000 in
theorem c_X0_checkPlace (l : Launch) (D : va_G) (cI cJ : ClassId) (q : Nat → Nat) (n : Nat) (mk lt tg : Nat → Int32) (pa an la kn : Nat → Int64) (fb : Int32) (fh nb te wt bh : Nat → Int32) (pp : Nat) (L : Nat) (hp : pp < L) (hL : L < 2 ^ 31) : eg_MR D (tyL cI cJ) l yX0_checkPlace wsX0_checkPlace ({ frames := 0, cells := 0, slots := 0, locals := 0 }) [.ref (q 0), .int (nI pp), .int (nI L)] (wX q cI cJ (nI n) mk lt tg pa an la kn fb fh nb te wt bh) (none) := by
  refine Met.ofW (cc := cX0_checkPlace) (maxL := 3) (ret := none) (by decide) rfl ?_
  intro p e s m args below meth c s₁ B hml hv
  obtain ⟨rfl, hP, hK⟩ := hv
  have hx := B.exec
  have hb := B.bytes
  have hr := B.returns
  have hts := atoms_spec (ws := wsX0_checkPlace) B.pre
  have hown : s.vm.findClass RX0 = some m.cls := findClass_of_methodNamed B.named
  have hlocks := B.notSynchronized
  have hl := lv_entry ([.ref (q 0), .int (nI pp), .int (nI L)]) (n := 3) (Nat.le_of_ble_eq_true rfl)
  rw [lg_entry_eq]
  generalize (lg_sl ([.ref (q 0), .int (nI pp), .int (nI L)]) ++ List.replicate (3 - (lg_sl ([.ref (q 0), .int (nI pp), .int (nI L)])).length) Slot.unset).toArray = ls at hl ⊢
  have hl : lv_has ls 3 [(0, .ref (q 0)), (1, .int (nI pp)), (2, .int (nI L))] := hl
  refine lv_iload_n hx hb dX0_checkPlace_0 rfl (lv_at hl 1 rfl) ?_
  refine eg_if_lt (tgt := 9) hx hb dX0_checkPlace_1 (by decide) (by omega) ?_
  refine lv_iload_n hx hb dX0_checkPlace_4 rfl (lv_at hl 1 rfl) ?_
  refine lv_iload_n hx hb dX0_checkPlace_5 rfl (lv_at hl 2 rfl) ?_
  refine eg_icmp_lt (tgt := 19) hx hb dX0_checkPlace_6 (by decide) (by omega) (by omega) (fun c6 => ?_) (fun c6 => ?_)
  · exact W.vret hx hb hr (fun t9 ht9 _ => ⟨rfl, ht9⟩) (fun q h => nomatch h) dX0_checkPlace_19
  · omega
set_option maxHeartbeats 4000000 in
set_option maxRecDepth 100000 in
theorem c_X0_checkRoom (l : Launch) (D : va_G) (cI cJ : ClassId) (q : Nat → Nat) (n : Nat) (mk lt tg : Nat → Int32) (pa an la kn : Nat → Int64) (fb : Int32) (fh nb te wt bh : Nat → Int32) (hn : n < 60) : eg_MR D (tyL cI cJ) l yX0_checkRoom wsX0_checkRoom ({ frames := 0, cells := 0, slots := 0, locals := 0 }) [.ref (q 0)] (wX q cI cJ (nI n) mk lt tg pa an la kn fb fh nb te wt bh) (none) := by
  refine Met.ofW (cc := cX0_checkRoom) (maxL := 1) (ret := none) (by decide) rfl ?_
  intro p e s m args below meth c s₁ B hml hv
  obtain ⟨rfl, hP, hK⟩ := hv
  have hx := B.exec
  have hb := B.bytes
  have hr := B.returns
  have hts := atoms_spec (ws := wsX0_checkRoom) B.pre
  have hown : s.vm.findClass RX0 = some m.cls := findClass_of_methodNamed B.named
  have hlocks := B.notSynchronized
  have hin : ∀ w ∈ u_ws RX0 TX0 14, w ∈ wsX0_checkRoom := by decide +kernel
  have hl := lv_entry ([.ref (q 0)]) (n := 1) (Nat.le_of_ble_eq_true rfl)
  rw [lg_entry_eq]
  generalize (lg_sl ([.ref (q 0)]) ++ List.replicate (1 - (lg_sl ([.ref (q 0)])).length) Slot.unset).toArray = ls at hl ⊢
  have hl : lv_has ls 1 [(0, .ref (q 0))] := hl
  refine lv_aload_n hx hb dX0_checkRoom_0 rfl (lv_at hl 0 rfl) ?_
  refine va_get (D := D) (ci := 0) (v := .int (nI n)) (C := RX0) (T := TX0) (N := 14) hx hb hts hin hown hK hP 0 rfl rfl 0 (by decide) (hts (.fieldLink RX0 7 "EditGraph" "eventCount" "I") (by decide +kernel)) (fun _ h9 => h9) rfl dX0_checkRoom_1 ?_
  refine lv_bipush (v := nI 60) hx hb dX0_checkRoom_4 (by decide +kernel) ?_
  refine eg_icmp_lt (tgt := 19) hx hb dX0_checkRoom_6 (by decide) (by omega) (by omega) (fun c6 => ?_) (fun c6 => ?_)
  · exact W.vret hx hb hr (fun t9 ht9 _ => ⟨rfl, ht9⟩) (fun q h => nomatch h) dX0_checkRoom_19
  · omega
set_option maxHeartbeats 4000000 in
set_option maxRecDepth 100000 in
theorem c_X0_checkAuthor_no (l : Launch) (D : va_G) (cI cJ : ClassId) (q : Nat → Nat) (n : Nat) (mk lt tg : Nat → Int32) (pa an la kn : Nat → Int64) (fb : Int32) (fh nb te wt bh : Nat → Int32) (x : Int32) (hbad : bad 4 x) (hfl : l.stackTraces = false) : eg_MX D (tyL cI cJ) l yX0_checkAuthor wsX0_checkAuthor ({ frames := 6, cells := 1, slots := 6, locals := 82 }) [.ref (q 0), .int x] (wX q cI cJ (nI n) mk lt tg pa an la kn fb fh nb te wt bh) "java/lang/IndexOutOfBoundsException" (fun w1 => w1 = wX q cI cJ (nI n) mk lt tg pa an la kn fb fh nb te wt bh) := by
  refine vx_ofW (cc := cX0_checkAuthor) (maxL := 2) (ret := none) (by decide) rfl ?_
  intro p e s m args below meth c s₁ B hml htb hv
  obtain ⟨rfl, hP, hK, hD0, hT⟩ := hv
  have hx := B.exec
  have hb := B.bytes
  have hr := B.returns
  have hts := atoms_spec (ws := wsX0_checkAuthor) B.pre
  have hown : s.vm.findClass RX0 = some m.cls := findClass_of_methodNamed B.named
  have hlocks := B.notSynchronized
  have hD := eg_D_of hD0
  have hS : va_S (eg_A (wX q cI cJ (nI n) mk lt tg pa an la kn fb fh nb te wt bh)) s.heap s.heap [] := va_S.rf
  have hl := lv_entry ([.ref (q 0), .int x]) (n := 2) (Nat.le_of_ble_eq_true rfl)
  rw [lg_entry_eq]
  generalize (lg_sl ([.ref (q 0), .int x]) ++ List.replicate (2 - (lg_sl ([.ref (q 0), .int x])).length) Slot.unset).toArray = ls at hl ⊢
  have hl : lv_has ls 2 [(0, .ref (q 0)), (1, .int x)] := hl
  generalize h0H : s.heap = H at hP ⊢
  have hS : va_S (eg_A (wX q cI cJ (nI n) mk lt tg pa an la kn fb fh nb te wt bh)) s.heap H [] := by rw [← h0H]; exact hS
  generalize ([] : List Loc) = locs at hS ⊢
  refine lv_iload_n hx hb dX0_checkAuthor_0 rfl (lv_at hl 1 rfl) ?_
  refine lv_if_lt (tgt := 9) hx hb dX0_checkAuthor_1 (by decide) (fun c1 => ?_) (fun c1 => ?_)
  · exact eg_throw hx hb hfl hown (by decide +kernel) (hts (.classLink RX0 126 "java/lang/IndexOutOfBoundsException") (by decide +kernel)) (hts (.initialized "java/lang/IndexOutOfBoundsException") (by decide +kernel)) hT.2.1 (hat_130 (fun w h9 => hts w (List.mem_cons_of_mem _ (List.mem_append_right _ h9))) hT.1.2) ot_130 hP rfl hS hT (hl.1.trans hml.symm) dX0_checkAuthor_9 dX0_checkAuthor_12 dX0_checkAuthor_13 dX0_checkAuthor_15 dX0_checkAuthor_18 htb (Nat.le_of_ble_eq_true rfl) (Nat.le_of_ble_eq_true rfl) (Nat.le_of_ble_eq_true rfl) (Nat.le_of_ble_eq_true rfl) hlocks rfl
  · refine lv_iload_n hx hb dX0_checkAuthor_4 rfl (lv_at hl 1 rfl) ?_
    refine lv_iconst (v := nI 4) hx hb dX0_checkAuthor_5 (by decide +kernel) ?_
    refine lv_icmp_lt (tgt := 19) hx hb dX0_checkAuthor_6 (by decide) (fun c6 => ?_) (fun c6 => ?_)
    · exact absurd c6 (bad_not hbad c1)
    · exact eg_throw hx hb hfl hown (by decide +kernel) (hts (.classLink RX0 126 "java/lang/IndexOutOfBoundsException") (by decide +kernel)) (hts (.initialized "java/lang/IndexOutOfBoundsException") (by decide +kernel)) hT.2.1 (hat_130 (fun w h9 => hts w (List.mem_cons_of_mem _ (List.mem_append_right _ h9))) hT.1.2) ot_130 hP rfl hS hT (hl.1.trans hml.symm) dX0_checkAuthor_9 dX0_checkAuthor_12 dX0_checkAuthor_13 dX0_checkAuthor_15 dX0_checkAuthor_18 htb (Nat.le_of_ble_eq_true rfl) (Nat.le_of_ble_eq_true rfl) (Nat.le_of_ble_eq_true rfl) (Nat.le_of_ble_eq_true rfl) hlocks rfl
set_option maxHeartbeats 4000000 in
set_option maxRecDepth 100000 in
theorem c_X0_checkEvent_no (l : Launch) (D : va_G) (cI cJ : ClassId) (q : Nat → Nat) (n : Nat) (mk lt tg : Nat → Int32) (pa an la kn : Nat → Int64) (fb : Int32) (fh nb te wt bh : Nat → Int32) (x : Int32) (hbad : bad n x) (hfl : l.stackTraces = false) : eg_MX D (tyL cI cJ) l yX0_checkEvent wsX0_checkEvent ({ frames := 6, cells := 1, slots := 6, locals := 82 }) [.ref (q 0), .int x] (wX q cI cJ (nI n) mk lt tg pa an la kn fb fh nb te wt bh) "java/lang/IndexOutOfBoundsException" (fun w1 => w1 = wX q cI cJ (nI n) mk lt tg pa an la kn fb fh nb te wt bh) := by
  refine vx_ofW (cc := cX0_checkEvent) (maxL := 2) (ret := none) (by decide) rfl ?_
  intro p e s m args below meth c s₁ B hml htb hv
  obtain ⟨rfl, hP, hK, hD0, hT⟩ := hv
  have hx := B.exec
  have hb := B.bytes
  have hr := B.returns
  have hts := atoms_spec (ws := wsX0_checkEvent) B.pre
  have hown : s.vm.findClass RX0 = some m.cls := findClass_of_methodNamed B.named
  have hlocks := B.notSynchronized
  have hD := eg_D_of hD0
  have hS : va_S (eg_A (wX q cI cJ (nI n) mk lt tg pa an la kn fb fh nb te wt bh)) s.heap s.heap [] := va_S.rf
  have hl := lv_entry ([.ref (q 0), .int x]) (n := 2) (Nat.le_of_ble_eq_true rfl)
  rw [lg_entry_eq]
  generalize (lg_sl ([.ref (q 0), .int x]) ++ List.replicate (2 - (lg_sl ([.ref (q 0), .int x])).length) Slot.unset).toArray = ls at hl ⊢
  have hl : lv_has ls 2 [(0, .ref (q 0)), (1, .int x)] := hl
  generalize h0H : s.heap = H at hP ⊢
  have hS : va_S (eg_A (wX q cI cJ (nI n) mk lt tg pa an la kn fb fh nb te wt bh)) s.heap H [] := by rw [← h0H]; exact hS
  generalize ([] : List Loc) = locs at hS ⊢
  refine lv_aload_n hx hb dX0_checkEvent_0 rfl (lv_at hl 0 rfl) ?_
  refine lv_iload_n hx hb dX0_checkEvent_1 rfl (lv_at hl 1 rfl) ?_
  refine eg_callV (As := [.int x]) (rest := []) hx hb hml hown hts hK hP (c_X0_isEvent l D cI cJ q n mk lt tg pa an la kn fb fh nb te wt bh x ) (cwV 1 hts gX0_checkEvent_X0_isEvent rfl rfl rfl (by decide +kernel) ⟨Nat.le_of_ble_eq_true rfl, Nat.le_of_ble_eq_true rfl⟩) (va_recv hK hP (ci := 0) (q0 := 0) rfl rfl) rfl hl.1 rfl (Nat.le_of_ble_eq_true rfl) dX0_checkEvent_2 ⟨Nat.zero_le _, Nat.zero_le _⟩ ?_
  refine eg_ifne_b (tgt := 18) hx hb dX0_checkEvent_5 (by decide) (fun c5 => ?_) (fun c5 => ?_)
  · rw [bad_ev hbad] at c5; cases c5
  · exact eg_throw hx hb hfl hown (by decide +kernel) (hts (.classLink RX0 126 "java/lang/IndexOutOfBoundsException") (by decide +kernel)) (hts (.initialized "java/lang/IndexOutOfBoundsException") (by decide +kernel)) hT.2.2.1 (hat_130 (fun w h9 => hts w (List.mem_cons_of_mem _ (List.mem_append_right _ h9))) hT.1.2) ot_130 hP rfl hS hT (hl.1.trans hml.symm) dX0_checkEvent_8 dX0_checkEvent_11 dX0_checkEvent_12 dX0_checkEvent_14 dX0_checkEvent_17 htb (Nat.le_of_ble_eq_true rfl) (Nat.le_of_ble_eq_true rfl) (Nat.le_of_ble_eq_true rfl) (Nat.le_of_ble_eq_true rfl) hlocks rfl
set_option maxHeartbeats 4000000 in
set_option maxRecDepth 100000 in
theorem c_X0_checkPlace_no (l : Launch) (D : va_G) (cI cJ : ClassId) (q : Nat → Nat) (n : Nat) (mk lt tg : Nat → Int32) (pa an la kn : Nat → Int64) (fb : Int32) (fh nb te wt bh : Nat → Int32) (x : Int32) (L : Nat) (hbad : bad L x) (hfl : l.stackTraces = false) : eg_MX D (tyL cI cJ) l yX0_checkPlace wsX0_checkPlace ({ frames := 6, cells := 1, slots := 6, locals := 82 }) [.ref (q 0), .int x, .int (nI L)] (wX q cI cJ (nI n) mk lt tg pa an la kn fb fh nb te wt bh) "java/lang/IndexOutOfBoundsException" (fun w1 => w1 = wX q cI cJ (nI n) mk lt tg pa an la kn fb fh nb te wt bh) := by
  refine vx_ofW (cc := cX0_checkPlace) (maxL := 3) (ret := none) (by decide) rfl ?_
  intro p e s m args below meth c s₁ B hml htb hv
  obtain ⟨rfl, hP, hK, hD0, hT⟩ := hv
  have hx := B.exec
  have hb := B.bytes
  have hr := B.returns
  have hts := atoms_spec (ws := wsX0_checkPlace) B.pre
  have hown : s.vm.findClass RX0 = some m.cls := findClass_of_methodNamed B.named
  have hlocks := B.notSynchronized
  have hD := eg_D_of hD0
  have hS : va_S (eg_A (wX q cI cJ (nI n) mk lt tg pa an la kn fb fh nb te wt bh)) s.heap s.heap [] := va_S.rf
  have hl := lv_entry ([.ref (q 0), .int x, .int (nI L)]) (n := 3) (Nat.le_of_ble_eq_true rfl)
  rw [lg_entry_eq]
  generalize (lg_sl ([.ref (q 0), .int x, .int (nI L)]) ++ List.replicate (3 - (lg_sl ([.ref (q 0), .int x, .int (nI L)])).length) Slot.unset).toArray = ls at hl ⊢
  have hl : lv_has ls 3 [(0, .ref (q 0)), (1, .int x), (2, .int (nI L))] := hl
  generalize h0H : s.heap = H at hP ⊢
  have hS : va_S (eg_A (wX q cI cJ (nI n) mk lt tg pa an la kn fb fh nb te wt bh)) s.heap H [] := by rw [← h0H]; exact hS
  generalize ([] : List Loc) = locs at hS ⊢
  refine lv_iload_n hx hb dX0_checkPlace_0 rfl (lv_at hl 1 rfl) ?_
  refine lv_if_lt (tgt := 9) hx hb dX0_checkPlace_1 (by decide) (fun c1 => ?_) (fun c1 => ?_)
  · exact eg_throw hx hb hfl hown (by decide +kernel) (hts (.classLink RX0 126 "java/lang/IndexOutOfBoundsException") (by decide +kernel)) (hts (.initialized "java/lang/IndexOutOfBoundsException") (by decide +kernel)) hT.2.2.2.1 (hat_130 (fun w h9 => hts w (List.mem_cons_of_mem _ (List.mem_append_right _ h9))) hT.1.2) ot_130 hP rfl hS hT (hl.1.trans hml.symm) dX0_checkPlace_9 dX0_checkPlace_12 dX0_checkPlace_13 dX0_checkPlace_15 dX0_checkPlace_18 htb (Nat.le_of_ble_eq_true rfl) (Nat.le_of_ble_eq_true rfl) (Nat.le_of_ble_eq_true rfl) (Nat.le_of_ble_eq_true rfl) hlocks rfl
  · refine lv_iload_n hx hb dX0_checkPlace_4 rfl (lv_at hl 1 rfl) ?_
    refine lv_iload_n hx hb dX0_checkPlace_5 rfl (lv_at hl 2 rfl) ?_
    refine lv_icmp_lt (tgt := 19) hx hb dX0_checkPlace_6 (by decide) (fun c6 => ?_) (fun c6 => ?_)
    · exact absurd c6 (bad_not hbad c1)
    · exact eg_throw hx hb hfl hown (by decide +kernel) (hts (.classLink RX0 126 "java/lang/IndexOutOfBoundsException") (by decide +kernel)) (hts (.initialized "java/lang/IndexOutOfBoundsException") (by decide +kernel)) hT.2.2.2.1 (hat_130 (fun w h9 => hts w (List.mem_cons_of_mem _ (List.mem_append_right _ h9))) hT.1.2) ot_130 hP rfl hS hT (hl.1.trans hml.symm) dX0_checkPlace_9 dX0_checkPlace_12 dX0_checkPlace_13 dX0_checkPlace_15 dX0_checkPlace_18 htb (Nat.le_of_ble_eq_true rfl) (Nat.le_of_ble_eq_true rfl) (Nat.le_of_ble_eq_true rfl) (Nat.le_of_ble_eq_true rfl) hlocks rfl
set_option maxHeartbeats 4000000 in
set_option maxRecDepth 100000 in
theorem c_X0_checkRoom_no (l : Launch) (D : va_G) (cI cJ : ClassId) (q : Nat → Nat) (n : Nat) (mk lt tg : Nat → Int32) (pa an la kn : Nat → Int64) (fb : Int32) (fh nb te wt bh : Nat → Int32) (hn : 60 ≤ n) (hn2 : n ≤ 60) (hfl : l.stackTraces = false) : eg_MX D (tyL cI cJ) l yX0_checkRoom wsX0_checkRoom ({ frames := 6, cells := 1, slots := 6, locals := 82 }) [.ref (q 0)] (wX q cI cJ (nI n) mk lt tg pa an la kn fb fh nb te wt bh) "java/lang/IllegalStateException" (fun w1 => w1 = wX q cI cJ (nI n) mk lt tg pa an la kn fb fh nb te wt bh) := by
  refine vx_ofW (cc := cX0_checkRoom) (maxL := 1) (ret := none) (by decide) rfl ?_
  intro p e s m args below meth c s₁ B hml htb hv
  obtain ⟨rfl, hP, hK, hD0, hT⟩ := hv
  have hx := B.exec
  have hb := B.bytes
  have hr := B.returns
  have hts := atoms_spec (ws := wsX0_checkRoom) B.pre
  have hown : s.vm.findClass RX0 = some m.cls := findClass_of_methodNamed B.named
  have hlocks := B.notSynchronized
  have hD := eg_D_of hD0
  have hS : va_S (eg_A (wX q cI cJ (nI n) mk lt tg pa an la kn fb fh nb te wt bh)) s.heap s.heap [] := va_S.rf
  have hin : ∀ w ∈ u_ws RX0 TX0 14, w ∈ wsX0_checkRoom := by decide +kernel
  have hl := lv_entry ([.ref (q 0)]) (n := 1) (Nat.le_of_ble_eq_true rfl)
  rw [lg_entry_eq]
  generalize (lg_sl ([.ref (q 0)]) ++ List.replicate (1 - (lg_sl ([.ref (q 0)])).length) Slot.unset).toArray = ls at hl ⊢
  have hl : lv_has ls 1 [(0, .ref (q 0))] := hl
  generalize h0H : s.heap = H at hP ⊢
  have hS : va_S (eg_A (wX q cI cJ (nI n) mk lt tg pa an la kn fb fh nb te wt bh)) s.heap H [] := by rw [← h0H]; exact hS
  generalize ([] : List Loc) = locs at hS ⊢
  refine lv_aload_n hx hb dX0_checkRoom_0 rfl (lv_at hl 0 rfl) ?_
  refine va_get (D := D) (ci := 0) (v := .int (nI n)) (C := RX0) (T := TX0) (N := 14) hx hb hts hin hown hK hP 0 rfl rfl 0 (by decide) (hts (.fieldLink RX0 7 "EditGraph" "eventCount" "I") (by decide +kernel)) (fun _ h9 => h9) rfl dX0_checkRoom_1 ?_
  refine lv_bipush (v := nI 60) hx hb dX0_checkRoom_4 (by decide +kernel) ?_
  refine eg_icmp_lt (tgt := 19) hx hb dX0_checkRoom_6 (by decide) (by omega) (by omega) (fun c6 => ?_) (fun c6 => ?_)
  · omega
  · exact eg_throw hx hb hfl hown (by decide +kernel) (hts (.classLink RX0 138 "java/lang/IllegalStateException") (by decide +kernel)) (hts (.initialized "java/lang/IllegalStateException") (by decide +kernel)) hT.2.2.2.2.1 (hat_142 (fun w h9 => hts w (List.mem_cons_of_mem _ (List.mem_append_right _ h9))) hT.1.2) ot_142 hP rfl hS hT (hl.1.trans hml.symm) dX0_checkRoom_9 dX0_checkRoom_12 dX0_checkRoom_13 dX0_checkRoom_15 dX0_checkRoom_18 htb (Nat.le_of_ble_eq_true rfl) (Nat.le_of_ble_eq_true rfl) (Nat.le_of_ble_eq_true rfl) (Nat.le_of_ble_eq_true rfl) hlocks rfl
end
