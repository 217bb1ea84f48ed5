section
-- ===== PART A: goes FIRST, ahead of the names: the tables' words, and 'selects' of the private methods out of them =====
/-- a private method of a class that the tables say can be made, by its rows of tables_1 -/
def lw_okq (q : MethodName × Nat) : Prop := (q.1.cls ≠ "java/lang/invoke/MethodHandle" ∧ q.1.cls ≠ "java/lang/invoke/VarHandle") ∧ Cond.instantiable q.1.cls q.2 ∈ tables_1 ∧ Cond.privateMethod q.1 ∈ tables_1 ∧ Cond.instanceMethod q.1 ∈ tables_1
theorem lw_p0 : lw_okq (⟨"EditGraph", "checkAuthor", "(I)V"⟩, 14) := ⟨⟨by decide +kernel, by decide +kernel⟩, List.mem_of_getElem? (i := 10) (by decide +kernel), List.mem_of_getElem? (i := 81) (by decide +kernel), List.mem_of_getElem? (i := 82) (by decide +kernel)⟩
theorem lw_p1 : lw_okq (⟨"java/lang/Throwable", "fillInStackTrace", "(I)Ljava/lang/Throwable;"⟩, 6) := ⟨⟨by decide +kernel, by decide +kernel⟩, List.mem_of_getElem? (i := 123) (by decide +kernel), List.mem_of_getElem? (i := 121) (by decide +kernel), List.mem_of_getElem? (i := 122) (by decide +kernel)⟩
theorem lw_p2 : lw_okq (⟨"EditGraph", "findText", "(J)I"⟩, 14) := ⟨⟨by decide +kernel, by decide +kernel⟩, List.mem_of_getElem? (i := 10) (by decide +kernel), List.mem_of_getElem? (i := 153) (by decide +kernel), List.mem_of_getElem? (i := 154) (by decide +kernel)⟩
theorem lw_p3 : lw_okq (⟨"EditGraph", "standingIn", "(J)J"⟩, 14) := ⟨⟨by decide +kernel, by decide +kernel⟩, List.mem_of_getElem? (i := 10) (by decide +kernel), List.mem_of_getElem? (i := 157) (by decide +kernel), List.mem_of_getElem? (i := 158) (by decide +kernel)⟩
theorem lw_p4 : lw_okq (⟨"EditGraph", "isInsert", "(I)Z"⟩, 14) := ⟨⟨by decide +kernel, by decide +kernel⟩, List.mem_of_getElem? (i := 10) (by decide +kernel), List.mem_of_getElem? (i := 167) (by decide +kernel), List.mem_of_getElem? (i := 168) (by decide +kernel)⟩
theorem lw_p5 : lw_okq (⟨"EditGraph", "putWaiting", "(II)I"⟩, 14) := ⟨⟨by decide +kernel, by decide +kernel⟩, List.mem_of_getElem? (i := 10) (by decide +kernel), List.mem_of_getElem? (i := 172) (by decide +kernel), List.mem_of_getElem? (i := 173) (by decide +kernel)⟩
theorem lw_p6 : lw_okq (⟨"EditGraph", "isEvent", "(I)Z"⟩, 14) := ⟨⟨by decide +kernel, by decide +kernel⟩, List.mem_of_getElem? (i := 10) (by decide +kernel), List.mem_of_getElem? (i := 176) (by decide +kernel), List.mem_of_getElem? (i := 177) (by decide +kernel)⟩
theorem lw_p7 : lw_okq (⟨"EditGraph", "putText", "(JII)I"⟩, 14) := ⟨⟨by decide +kernel, by decide +kernel⟩, List.mem_of_getElem? (i := 10) (by decide +kernel), List.mem_of_getElem? (i := 180) (by decide +kernel), List.mem_of_getElem? (i := 181) (by decide +kernel)⟩
theorem lw_p8 : lw_okq (⟨"EditGraph", "checkPlace", "(II)V"⟩, 14) := ⟨⟨by decide +kernel, by decide +kernel⟩, List.mem_of_getElem? (i := 10) (by decide +kernel), List.mem_of_getElem? (i := 184) (by decide +kernel), List.mem_of_getElem? (i := 185) (by decide +kernel)⟩
theorem lw_p9 : lw_okq (⟨"EditGraph", "checkRoom", "()V"⟩, 14) := ⟨⟨by decide +kernel, by decide +kernel⟩, List.mem_of_getElem? (i := 10) (by decide +kernel), List.mem_of_getElem? (i := 205) (by decide +kernel), List.mem_of_getElem? (i := 206) (by decide +kernel)⟩
theorem lw_p10 : lw_okq (⟨"EditGraph", "addEvent", "(III)I"⟩, 14) := ⟨⟨by decide +kernel, by decide +kernel⟩, List.mem_of_getElem? (i := 10) (by decide +kernel), List.mem_of_getElem? (i := 225) (by decide +kernel), List.mem_of_getElem? (i := 226) (by decide +kernel)⟩
theorem lw_p11 : lw_okq (⟨"EditGraph", "headsOf", "(J)J"⟩, 14) := ⟨⟨by decide +kernel, by decide +kernel⟩, List.mem_of_getElem? (i := 10) (by decide +kernel), List.mem_of_getElem? (i := 229) (by decide +kernel), List.mem_of_getElem? (i := 230) (by decide +kernel)⟩
theorem lw_p12 : lw_okq (⟨"EditGraph", "markLater", "(JI)V"⟩, 14) := ⟨⟨by decide +kernel, by decide +kernel⟩, List.mem_of_getElem? (i := 10) (by decide +kernel), List.mem_of_getElem? (i := 233) (by decide +kernel), List.mem_of_getElem? (i := 234) (by decide +kernel)⟩
theorem lw_p13 : lw_okq (⟨"EditGraph", "hangLetter", "(II)V"⟩, 14) := ⟨⟨by decide +kernel, by decide +kernel⟩, List.mem_of_getElem? (i := 10) (by decide +kernel), List.mem_of_getElem? (i := 237) (by decide +kernel), List.mem_of_getElem? (i := 238) (by decide +kernel)⟩
theorem lw_p14 : lw_okq (⟨"EditGraph", "addKnown", "(IJ)I"⟩, 14) := ⟨⟨by decide +kernel, by decide +kernel⟩, List.mem_of_getElem? (i := 10) (by decide +kernel), List.mem_of_getElem? (i := 252) (by decide +kernel), List.mem_of_getElem? (i := 253) (by decide +kernel)⟩
theorem lw_p15 : lw_okq (⟨"EditGraph", "checkEvent", "(I)V"⟩, 14) := ⟨⟨by decide +kernel, by decide +kernel⟩, List.mem_of_getElem? (i := 10) (by decide +kernel), List.mem_of_getElem? (i := 266) (by decide +kernel), List.mem_of_getElem? (i := 267) (by decide +kernel)⟩
def lw_privs_1 : List (MethodName × Nat) := [(⟨"EditGraph", "checkAuthor", "(I)V"⟩, 14), (⟨"java/lang/Throwable", "fillInStackTrace", "(I)Ljava/lang/Throwable;"⟩, 6), (⟨"EditGraph", "findText", "(J)I"⟩, 14), (⟨"EditGraph", "standingIn", "(J)J"⟩, 14), (⟨"EditGraph", "isInsert", "(I)Z"⟩, 14), (⟨"EditGraph", "putWaiting", "(II)I"⟩, 14), (⟨"EditGraph", "isEvent", "(I)Z"⟩, 14), (⟨"EditGraph", "putText", "(JII)I"⟩, 14), (⟨"EditGraph", "checkPlace", "(II)V"⟩, 14), (⟨"EditGraph", "checkRoom", "()V"⟩, 14), (⟨"EditGraph", "addEvent", "(III)I"⟩, 14), (⟨"EditGraph", "headsOf", "(J)J"⟩, 14), (⟨"EditGraph", "markLater", "(JI)V"⟩, 14), (⟨"EditGraph", "hangLetter", "(II)V"⟩, 14), (⟨"EditGraph", "addKnown", "(IJ)I"⟩, 14), (⟨"EditGraph", "checkEvent", "(I)V"⟩, 14)]
theorem lw_r1 : ∀ q ∈ lw_privs_1, lw_okq q := List.forall_mem_cons.mpr ⟨lw_p0, List.forall_mem_cons.mpr ⟨lw_p1, List.forall_mem_cons.mpr ⟨lw_p2, List.forall_mem_cons.mpr ⟨lw_p3, List.forall_mem_cons.mpr ⟨lw_p4, List.forall_mem_cons.mpr ⟨lw_p5, List.forall_mem_cons.mpr ⟨lw_p6, List.forall_mem_cons.mpr ⟨lw_p7, List.forall_mem_cons.mpr ⟨lw_p8, List.forall_mem_cons.mpr ⟨lw_p9, List.forall_mem_cons.mpr ⟨lw_p10, List.forall_mem_cons.mpr ⟨lw_p11, List.forall_mem_cons.mpr ⟨lw_p12, List.forall_mem_cons.mpr ⟨lw_p13, List.forall_mem_cons.mpr ⟨lw_p14, List.forall_mem_cons.mpr ⟨lw_p15, fun _ h => absurd h List.not_mem_nil⟩⟩⟩⟩⟩⟩⟩⟩⟩⟩⟩⟩⟩⟩⟩⟩
theorem lw_p16 : lw_okq (⟨"EditGraph", "versionOfEvent", "(I)J"⟩, 14) := ⟨⟨by decide +kernel, by decide +kernel⟩, List.mem_of_getElem? (i := 10) (by decide +kernel), List.mem_of_getElem? (i := 271) (by decide +kernel), List.mem_of_getElem? (i := 272) (by decide +kernel)⟩
theorem lw_p17 : lw_okq (⟨"EditGraph", "relatedTo", "(I)J"⟩, 14) := ⟨⟨by decide +kernel, by decide +kernel⟩, List.mem_of_getElem? (i := 10) (by decide +kernel), List.mem_of_getElem? (i := 286) (by decide +kernel), List.mem_of_getElem? (i := 287) (by decide +kernel)⟩
theorem lw_p18 : lw_okq (⟨"EditGraph", "criticalOf", "(J)J"⟩, 14) := ⟨⟨by decide +kernel, by decide +kernel⟩, List.mem_of_getElem? (i := 10) (by decide +kernel), List.mem_of_getElem? (i := 294) (by decide +kernel), List.mem_of_getElem? (i := 295) (by decide +kernel)⟩
theorem lw_p19 : lw_okq (⟨"EditGraph", "continuesRun", "(I)Z"⟩, 14) := ⟨⟨by decide +kernel, by decide +kernel⟩, List.mem_of_getElem? (i := 10) (by decide +kernel), List.mem_of_getElem? (i := 302) (by decide +kernel), List.mem_of_getElem? (i := 303) (by decide +kernel)⟩
theorem lw_p20 : lw_okq (⟨"EditGraph", "eventInText", "(JI)I"⟩, 14) := ⟨⟨by decide +kernel, by decide +kernel⟩, List.mem_of_getElem? (i := 10) (by decide +kernel), List.mem_of_getElem? (i := 310) (by decide +kernel), List.mem_of_getElem? (i := 311) (by decide +kernel)⟩
theorem lw_p21 : lw_okq (⟨"EditGraph", "findTextByList", "(J)I"⟩, 14) := ⟨⟨by decide +kernel, by decide +kernel⟩, List.mem_of_getElem? (i := 10) (by decide +kernel), List.mem_of_getElem? (i := 318) (by decide +kernel), List.mem_of_getElem? (i := 319) (by decide +kernel)⟩
theorem lw_p22 : lw_okq (⟨"EditGraph", "layList", "(J)I"⟩, 14) := ⟨⟨by decide +kernel, by decide +kernel⟩, List.mem_of_getElem? (i := 10) (by decide +kernel), List.mem_of_getElem? (i := 322) (by decide +kernel), List.mem_of_getElem? (i := 323) (by decide +kernel)⟩
def lw_privs_2 : List (MethodName × Nat) := [(⟨"EditGraph", "versionOfEvent", "(I)J"⟩, 14), (⟨"EditGraph", "relatedTo", "(I)J"⟩, 14), (⟨"EditGraph", "criticalOf", "(J)J"⟩, 14), (⟨"EditGraph", "continuesRun", "(I)Z"⟩, 14), (⟨"EditGraph", "eventInText", "(JI)I"⟩, 14), (⟨"EditGraph", "findTextByList", "(J)I"⟩, 14), (⟨"EditGraph", "layList", "(J)I"⟩, 14)]
theorem lw_r2 : ∀ q ∈ lw_privs_2, lw_okq q := List.forall_mem_cons.mpr ⟨lw_p16, List.forall_mem_cons.mpr ⟨lw_p17, List.forall_mem_cons.mpr ⟨lw_p18, List.forall_mem_cons.mpr ⟨lw_p19, List.forall_mem_cons.mpr ⟨lw_p20, List.forall_mem_cons.mpr ⟨lw_p21, List.forall_mem_cons.mpr ⟨lw_p22, fun _ h => absurd h List.not_mem_nil⟩⟩⟩⟩⟩⟩⟩
def lw_privs : List (MethodName × Nat) := lw_privs_1 ++ (lw_privs_2)
def lw_tbl : List Cond := k2_sels lw_privs ++ tables_1
theorem lw_privs_ok : ∀ q ∈ lw_privs, lw_okq q := by
  show ∀ q ∈ lw_privs_1 ++ (lw_privs_2), lw_okq q
  exact List.forall_mem_append.mpr ⟨lw_r1, lw_r2⟩
-- ===== end of PART A; then your names; then what follows =====
end
section
/-! ===== BEGIN words of one list among another's, by their places ===== -/
theorem goodIn_r {big : List Cond} (ws : List Cond) (ps : List Nat) (hp : ws = ps.filterMap (fun i => big[i]?)) (h : ws.all goodWord = true) : GoodIn big ws := by
  intro w hw
  have h1 := List.all_eq_true.mp h w hw
  rw [hp] at hw
  obtain ⟨i, -, hi⟩ := List.mem_filterMap.mp hw
  have hm : w ∈ big := by first | exact List.mem_of_getElem? hi | exact List.getElem?_mem hi
  exact ⟨hm, good_of_word h1⟩
theorem goodIn_app {big a b : List Cond} (ha : GoodIn big a) (hb : GoodIn big b) : GoodIn big (a ++ b) := fun w h => (List.mem_append.mp h).elim (ha w) (hb w)
theorem goodIn_ca {big a b : List Cond} {c : Cond} (ha : GoodIn big (c :: a)) (hb : GoodIn big b) : GoodIn big (c :: (a ++ b)) := fun w h => (List.mem_cons.mp h).elim (fun e => ha w (List.mem_cons.mpr (Or.inl e))) (fun h => (List.mem_append.mp h).elim (fun h => ha w (List.mem_cons.mpr (Or.inr h))) (hb w))
theorem goodIn_sub {big ws : List Cond} (hm : ∀ w ∈ ws, w ∈ big) (h : ws.all goodWord = true) : GoodIn big ws := fun w hw => ⟨hm w hw, good_of_word (List.all_eq_true.mp h w hw)⟩
/-! ===== END ===== -/

/-! ===== BEGIN exceptions that leave a method, and their catching by the caller (launches without stack traces) ===== -/
section VXA
/-! The laws vx_back, vx_callV, vx_callS, vx_callSW, vx_throw0, vx_throwS follow proofs of the library, with one case more: JvmDerived/Free/Laws.lean (Back.of_free), Shelf42/LK1.lean (callV, callS), Shelf/KitTraced.lean (throwNew0V, throwNewS). -/
/-- where a method has thrown q: the class by its name, the cell, what was written, the world -/
def vx_T (XC : String → State → State → Prop) (st : State) (q : Addr) (t : State) (mc ms : Nat) (free : Addr → Prop) : Prop :=
  ∃ (E : String) (ce : Cell) (L : List Loc), XC E st t ∧ t.heap[q]? = some ce ∧ ce.vm = .none ∧ st.vm.findClass E = some ce.cls ∧ st.WarmedH t.vm ∧ st.sameButNew ({ t with vm := st.vm } : State) L mc ms ∧ ∀ z ∈ L, free z.base
def vx_Q (Qc : Array Value → State → Outcome → State → Prop) (XC : String → State → State → Prop) (mc ms : Nat) (free : Addr → Prop) : Array Value → State → Outcome → State → Prop := fun a st o t =>
  (Qc a st o t ∧ ∃ L, FrameEnd st o t L mc ms ∧ ∀ q ∈ L, free q.base) ∨ ∃ q, o = .threw q ∧ vx_T XC st q t mc ms free
/-- a callee that returns or throws -/
def vx_Met (l : Launch) (y : MethodName) (ws : List Cond) (rm : Room) (Pc : Array Value → State → Prop) (Qc : Array Value → State → Outcome → State → Prop) (XC : String → State → State → Prop) (mc ms : Nat) (free : Addr → Prop) : Prop :=
  MetFree l y (headSpec ws rm) Pc (fun _ _ _ _ _ => True) (vx_Q Qc XC mc ms free)
def vx_Post (XC : String → State → State → Prop) (mc ms : Nat) (free : Addr → Prop) : Pt → Array Value → Addr → Pt → Prop := fun A a q B =>
  ∃ (g : JFrame) (mk : MethodId) (t : State) (L : List Loc) (E : String) (ce : Cell), B.U.heap = t.heap ∧ B.U.vm = t.vm ∧ XC E (A.U.calling g mk a) t ∧ t.heap[q]? = some ce ∧ ce.vm = .none ∧ A.U.vm.findClass E = some ce.cls ∧ B.locs = A.locs ++ L ∧ (∀ z ∈ L, free z.base) ∧ B.cells = A.cells + mc ∧ B.slots = A.slots + ms
def vx_Back (l : Launch) (R : Room) (p : Program) (e : Env) (below : List Frame) (s : State) (sargs : Array Value) (y : MethodName) (len W9 : Nat)
    (Pre : Pt → Array Value → Prop) (Post : Pt → Array Value → Option Value → Pt → Prop) (PostX : Pt → Array Value → Addr → Pt → Prop) : Prop :=
  ∀ (m : MethodId) (meth : Method) (c : Code) (A : Pt) (g : JFrame) (ig : Instr) (mk : MethodId) (a : Array Value),
    Stand p l e R s m sargs below meth c A.U A.locs A.cells A.slots → g.method = m → g.locals.size = c.maxLocals → decode c.code g.pc = .ok (ig, len) →
    2 * g.monitorRoom + (g.stack.map fun v => v.category).sum ≤ W9 → A.U.methodNamed? y = some mk → Pre A a →
    (∃ (v : Option Value) (B : Pt), Stand p l e R s m sargs below meth c B.U B.locs B.cells B.slots ∧ Post A a v B ∧
      Steps p.tables e below (doInvoke e (A.U.setTop g) [] mk a).1 (B.U.setTop { g with pc := g.pc + len, stack := v.toList ++ g.stack })) ∨
    (∃ (q : Addr) (B : Pt), Stand p l e R s m sargs below meth c B.U B.locs B.cells B.slots ∧ PostX A a q B ∧
      Steps p.tables e below (doInvoke e (A.U.setTop g) [] mk a).1 ((B.U.setTop g).pushFrame (.throwing q)))
section Payer
variable {l : Launch} {R : Room} {p : Program} {e : Env} {below : List Frame} {s : State} {sargs : Array Value} {y : MethodName} {len W9 : Nat}
theorem vx_back {ws : List Cond} {rm : Room} {Pc : Array Value → State → Prop} {Qc : Array Value → State → Outcome → State → Prop} {XC : String → State → State → Prop} {mc ms : Nat} {free : Addr → Prop} {bytes : ByteArray} {maxL : Nat} {ret : Option FieldType}
    (hM : vx_Met l y ws rm Pc Qc XC mc ms free) (hblind : FrameBlind Pc) (hrc : rm.cells = mc) (hrs : rm.slots = ms)
    (hframes : rm.frames + 1 ≤ R.frames) (hlocals : W9 + (maxL + 11) + rm.locals ≤ R.locals)
    (hws : ∀ w ∈ ws, ∀ a' U, s.WarmedH U.vm → w.before a' U = true) (hcode : Cond.code y bytes maxL ret ∈ ws) (hinit : ∀ a' U, s.WarmedH U.vm → (Cond.initialized y.cls).before a' U = true) :
    vx_Back l R p e below s sargs y len W9 (PreOf R mc ms Pc) (PostOf Qc mc ms free) (vx_Post XC mc ms free) := by
  intro m meth c A g ig mk a X hg hsize hdg hW hn hp
  have h1 : (headSpec ws rm).pre.before a A.U = true := atoms_intro fun w hw => hws w hw _ _ X.warmed
  have h2 : (Cond.code y bytes maxL ret).before a A.U = true := hws _ hcode _ _ X.warmed
  have h3 : (Cond.initialized y.cls).before a A.U = true := hinit _ _ X.warmed
  have h4 : A.cells + (headSpec ws rm).room.cells ≤ R.cells := by rw [show (headSpec ws rm).room.cells = mc from hrc]; exact hp.1
  have h5 : A.slots + (headSpec ws rm).room.slots ≤ R.slots := by rw [show (headSpec ws rm).room.slots = ms from hrs]; exact hp.2.1
  have hPc : Pc a (A.U.calling g mk a) := hblind _ _ _ _ hp.2.2
  obtain ⟨U, Ls, c0, s0⟩ := A
  dsimp only [Pt.U, Pt.locs, Pt.cells, Pt.slots] at h1 h2 h3 h4 h5 X hn hPc ⊢
  obtain ⟨methY, cY, hmY, hcY, -, hlY, -, -, -, -⟩ := Cond.code_spec hn h2
  obtain ⟨kY, hkY, -⟩ := className_of_methodNamed hn
  have hinitY : kY.init = .initialized := Cond.initialized_spec (findClass_of_methodNamed hn) hkY h3
  have h : At U g.method c below := by rw [hg]; exact X.here
  have hlocals9 : W9 + (maxL + 11) + (headSpec ws rm).room.locals ≤ R.locals := hlocals
  have happ : (headSpec ws rm).appliesLoose y e.platform (U.calling g mk a) = true :=
    Spec.appliesLoose_calling (g := g) h hdg hn hkY hinitY
      (X.room_calling (g := g) (R' := (headSpec ws rm).room) hsize hmY hcY hframes (by rw [hlY]; omega) h4 h5) h1
  obtain ⟨mid, hmid⟩ := h.above
  have hfr : (U.setTop g).frames = (.java g :: mid) ++ below := by rw [State.frames_setTop' g h.top, hmid]; rfl
  obtain ⟨o, s₂, hsteps, -, hend, hq⟩ := Steps.callFree hM p X.admits X.cas X.clock (acts := []) hfr happ hPc trivial
  have hq' : vx_Q Qc XC mc ms free a (U.calling g mk a) o s₂ := hq
  rw [State.frames_setTop' g h.top] at hend
  obtain ⟨g₀, hg0⟩ := Option.isSome_iff_exists.mp h.top
  obtain ⟨r, hr⟩ := State.topJava?_eq_some.mp hg0
  have hr' : (({ U with heap := s₂.heap, slotsUsed := s₂.slotsUsed } : State).setVm s₂.vm).frames = .java g₀ :: r := hr
  rcases hq' with ⟨hqc, L, hfe, hL⟩ | ⟨q, rfl, E, ce, L, hx, hce, hcv, hcl, hW₂, hsm, hL⟩
  · obtain ⟨⟨v, rfl⟩, hW₂, e2, q2, q3, q4, q5, q6⟩ := id hfe
    have e3 : s₂ = ({ (U.calling g mk a).setFrames s₂.frames with heap := s₂.heap, slotsUsed := s₂.slotsUsed } : State).setVm s₂.vm := by
      have : s₂ = ({ s₂ with vm := (U.calling g mk a).vm } : State).setVm s₂.vm := rfl
      rw [e2] at this
      exact this
    obtain ⟨c₂, i₂, len₂, hc₂, hd₂, hf₂⟩ := hend
    have hW' : U.WarmedH s₂.vm := hW₂
    have hcc : c₂ = c := by
      have h1 : s₂.code? g.method = U.code? g.method := by
        rw [State.code?_eq, State.code?_eq, hW'.alike.method?]
      exact Option.some.inj (hc₂.symm.trans (h1.trans h.code))
    subst hcc
    have hlen : len₂ = len := by rw [hdg] at hd₂; cases hd₂; rfl
    subst hlen
    have hs₂ : s₂ = (({ U with heap := s₂.heap, slotsUsed := s₂.slotsUsed } : State).setVm s₂.vm).setTop { g with pc := g.pc + len₂, stack := v.toList ++ g.stack } := by
      refine e3.trans ?_
      rw [hf₂, State.calling_eq h.top, State.setFrames_setFrames, State.setTop_of_frames _ hr', hr]
      rfl
    have hsame : U.sameButNew ({ U with heap := s₂.heap, slotsUsed := s₂.slotsUsed } : State) L mc ms := by
      refine ⟨?_, q2, q3, q4, q5, q6⟩
      obtain ⟨t, ht, -⟩ := State.frames_cons hr
      show ({ U with heap := s₂.heap, slotsUsed := s₂.slotsUsed } : State) = { U.setFrames U.frames with heap := s₂.heap, slotsUsed := s₂.slotsUsed }
      rw [State.setFrames_self ht]
    subst hg
    refine Or.inl ⟨v, ⟨(({ U with heap := s₂.heap, slotsUsed := s₂.slotsUsed } : State).setVm s₂.vm), Ls ++ L, c0 + mc, s0 + ms⟩,
      ⟨X.admits, X.cas, X.clock, X.frames, X.room, X.hears, X.method, X.code, (X.here.setHeapUsed s₂.heap s₂.slotsUsed).setVm hW'.alike, X.tail, State.WarmedH.trans X.warmed hW', X.limits, X.bytes, X.same.trans (hsame.setVm s.vm)⟩,
      ⟨g, mk, s₂, L, rfl, rfl, hqc, rfl, hL, rfl, rfl⟩, ?_⟩
    show Steps p.tables e below _ ((({ U with heap := s₂.heap, slotsUsed := s₂.slotsUsed } : State).setVm s₂.vm).setTop { g with pc := g.pc + len₂, stack := v.toList ++ g.stack })
    rw [← hs₂]
    exact hsteps
  · obtain ⟨e2, q2, q3, q4, q5, q6⟩ := id hsm
    have e3 : s₂ = ({ (U.calling g mk a).setFrames s₂.frames with heap := s₂.heap, slotsUsed := s₂.slotsUsed } : State).setVm s₂.vm := by
      have : s₂ = ({ s₂ with vm := (U.calling g mk a).vm } : State).setVm s₂.vm := rfl
      rw [e2] at this
      exact this
    have hf₂ : s₂.frames = .throwing q :: .java g :: U.frames.tail := hend
    have hW' : U.WarmedH s₂.vm := hW₂
    have hs₂ : s₂ = ((({ U with heap := s₂.heap, slotsUsed := s₂.slotsUsed } : State).setVm s₂.vm).setTop g).pushFrame (.throwing q) := by
      refine e3.trans ?_
      rw [hf₂, State.calling_eq h.top, State.setFrames_setFrames, State.pushFrame, State.frames_setTop _ hr', State.setTop_of_frames _ hr', State.setFrames_setFrames, hr]
      rfl
    have hsame : U.sameButNew ({ U with heap := s₂.heap, slotsUsed := s₂.slotsUsed } : State) L mc ms := by
      refine ⟨?_, q2, q3, q4, q5, q6⟩
      obtain ⟨t, ht, -⟩ := State.frames_cons hr
      show ({ U with heap := s₂.heap, slotsUsed := s₂.slotsUsed } : State) = { U.setFrames U.frames with heap := s₂.heap, slotsUsed := s₂.slotsUsed }
      rw [State.setFrames_self ht]
    subst hg
    refine Or.inr ⟨q, ⟨(({ U with heap := s₂.heap, slotsUsed := s₂.slotsUsed } : State).setVm s₂.vm), Ls ++ L, c0 + mc, s0 + ms⟩,
      ⟨X.admits, X.cas, X.clock, X.frames, X.room, X.hears, X.method, X.code, (X.here.setHeapUsed s₂.heap s₂.slotsUsed).setVm hW'.alike, X.tail, State.WarmedH.trans X.warmed hW', X.limits, X.bytes, X.same.trans (hsame.setVm s.vm)⟩,
      ⟨g, mk, s₂, L, E, ce, rfl, rfl, hx, hce, hcv, hcl, rfl, hL, rfl, rfl⟩, ?_⟩
    show Steps p.tables e below _ (((({ U with heap := s₂.heap, slotsUsed := s₂.slotsUsed } : State).setVm s₂.vm).setTop g).pushFrame (.throwing q))
    rw [← hs₂]
    exact hsteps
end Payer
section Calls
variable {p : Program} {l : Launch} {e : Env} {R : Room} {s : State} {m : MethodId} {args : Array Value} {below : List Frame} {meth : Method} {c : Code} {T : State} {locs : List Loc} {cells slots : Nat}
theorem vx_callV (X : Stand p l e R s m args below meth c T locs cells slots) (hexec : p.tables.exec = Jvm.exec) {own C : String} {index : Nat} {y : MethodName} {bytes : ByteArray} {maxL : Nat} {ret : Option FieldType}
    (hown : s.vm.findClass own = some m.cls) (hlink : (Cond.methodLink own index y).before args s = true) (hinst : (Cond.instanceMethod y).before args s = true) (hsel : (Cond.selects C y y).before args s = true)
    (hcode : (Cond.code y bytes maxL ret).before args s = true) (hy : y.cls ≠ "java/lang/invoke/MethodHandle" ∧ y.cls ≠ "java/lang/invoke/VarHandle")
    {W9 : Nat} {Pre : Pt → Array Value → Prop} {Post : Pt → Array Value → Option Value → Pt → Prop} {PostX : Pt → Array Value → Addr → Pt → Prop} (hK : vx_Back l R p e below s args y 3 W9 Pre Post PostX)
    {b : Addr} {cellB : Cell} (hcell : T.heap[b]? = some cellB) (hobj : cellB.vm.isStatics = false) (hcls : s.vm.findClass C = some cellB.cls)
    {g : JFrame} (hg : g.method = m) (hsize : g.locals.size = c.maxLocals) {argsL rest : List Value} (hlen : ∀ sig, parseMethodDescriptor y.desc = some sig → argsL.length = sig.parameters.length)
    (hstack : g.stack = argsL.reverse ++ .ref b :: rest) (hW : 2 * g.monitorRoom + (rest.map fun v => v.category).sum ≤ W9) (hdg : decode c.code g.pc = .ok (.invokevirtual index, 3))
    (hpre : ∀ vm₁, s.WarmedH vm₁ → Pre ⟨T.setVm vm₁, locs, cells, slots⟩ (Value.ref b :: argsL).toArray) :
    (∃ (v : Option Value) (vm₁ : Vm) (B : Pt), s.WarmedH vm₁ ∧ Stand p l e R s m args below meth c B.U B.locs B.cells B.slots ∧ Post ⟨T.setVm vm₁, locs, cells, slots⟩ (Value.ref b :: argsL).toArray v B ∧
      ∀ target, Steps p.tables e below (B.U.setTop { g with pc := g.pc + 3, stack := v.toList ++ rest }) target → Steps p.tables e below (T.setTop g) target) ∨
    (∃ (q : Addr) (vm₁ : Vm) (B : Pt), s.WarmedH vm₁ ∧ Stand p l e R s m args below meth c B.U B.locs B.cells B.slots ∧ PostX ⟨T.setVm vm₁, locs, cells, slots⟩ (Value.ref b :: argsL).toArray q B ∧
      Steps p.tables e below (T.setTop g) ((B.U.setTop { g with stack := rest }).pushFrame (.throwing q))) := by
  obtain ⟨mk, methM, hnamed, hmethM, hstM, habM⟩ := Cond.instanceMethod_spec hinst
  obtain ⟨methM', cM, hmethM', -, -, -, -, -, -, hsigM⟩ := Cond.code_spec hnamed hcode
  cases hmethM.symm.trans hmethM'
  obtain ⟨c2, r2, m2, q1, q2, q3, q4, kP, hkP, hkPi⟩ := Cond.selects_spec hsel
  cases hcls.symm.trans q1
  cases (State.methodFound?_of_named hnamed hy).symm.trans q2
  cases hnamed.symm.trans q3
  have hselP : selectMethod e.platform s.vm cellB.cls mk = .method mk := by rw [Launch.admits_selectMethod X.admits]; exact q4
  obtain ⟨vm₁, X₁, hstep₁⟩ := X.invokevirtual hexec hown hlink hnamed hmethM hstM hkP hkPi hy (a := b) (cell := cellB) hcell
    (fun z h => by rw [h] at hobj; cases hobj) hselP hmethM habM hkP hkPi (g := g) hg (argsL := argsL) (rest := rest) (hlen _ hsigM) hstack hdg
  rcases hK m meth c ⟨T.setVm vm₁, locs, cells, slots⟩ { g with stack := rest } (.invokevirtual index) mk (Value.ref b :: argsL).toArray X₁ hg hsize hdg hW (X₁.named hnamed) (hpre vm₁ X₁.warmed) with ⟨v, B, X', hpost, hsteps⟩ | ⟨q, B, X', hpost, hsteps⟩
  · exact Or.inl ⟨v, vm₁, B, X₁.warmed, X', hpost, fun target h => hstep₁ _ fun acts => by rw [doInvoke_state]; exact hsteps.trans h⟩
  · exact Or.inr ⟨q, vm₁, B, X₁.warmed, X', hpost, hstep₁ _ fun acts => by rw [doInvoke_state]; exact hsteps⟩
theorem vx_callS (X : Stand p l e R s m args below meth c T locs cells slots) (hexec : p.tables.exec = Jvm.exec) {own : String} {index : Nat} {y : MethodName} {bytes : ByteArray} {maxL : Nat} {ret : Option FieldType}
    (hown : s.vm.findClass own = some m.cls) (hlink : (Cond.methodLink own index y).before args s = true) (hstat : (Cond.static y).before args s = true) (hinit : (Cond.initialized y.cls).before args s = true)
    (hcode : (Cond.code y bytes maxL ret).before args s = true) (hy : y.cls ≠ "java/lang/invoke/MethodHandle" ∧ y.cls ≠ "java/lang/invoke/VarHandle")
    {W9 : Nat} {Pre : Pt → Array Value → Prop} {Post : Pt → Array Value → Option Value → Pt → Prop} {PostX : Pt → Array Value → Addr → Pt → Prop} (hK : vx_Back l R p e below s args y 3 W9 Pre Post PostX)
    {g : JFrame} (hg : g.method = m) (hsize : g.locals.size = c.maxLocals) {argsL rest : List Value} (hlen : ∀ sig, parseMethodDescriptor y.desc = some sig → argsL.length = sig.parameters.length)
    (hstack : g.stack = argsL.reverse ++ rest) (hW : 2 * g.monitorRoom + (rest.map fun v => v.category).sum ≤ W9) (hdg : decode c.code g.pc = .ok (.invokestatic index, 3))
    (hpre : ∀ vm₁, s.WarmedH vm₁ → Pre ⟨T.setVm vm₁, locs, cells, slots⟩ argsL.toArray) :
    (∃ (v : Option Value) (vm₁ : Vm) (B : Pt), s.WarmedH vm₁ ∧ Stand p l e R s m args below meth c B.U B.locs B.cells B.slots ∧ Post ⟨T.setVm vm₁, locs, cells, slots⟩ argsL.toArray v B ∧
      ∀ target, Steps p.tables e below (B.U.setTop { g with pc := g.pc + 3, stack := v.toList ++ rest }) target → Steps p.tables e below (T.setTop g) target) ∨
    (∃ (q : Addr) (vm₁ : Vm) (B : Pt), s.WarmedH vm₁ ∧ Stand p l e R s m args below meth c B.U B.locs B.cells B.slots ∧ PostX ⟨T.setVm vm₁, locs, cells, slots⟩ argsL.toArray q B ∧
      Steps p.tables e below (T.setTop g) ((B.U.setTop { g with stack := rest }).pushFrame (.throwing q))) := by
  obtain ⟨mk, hnamed⟩ := Cond.code_named hcode
  obtain ⟨methM, cM, hmethM, -, -, -, -, -, -, hsigM⟩ := Cond.code_spec hnamed hcode
  have hstatic : methM.isStatic = true := Cond.static_spec hnamed hmethM hstat
  obtain ⟨kP, hkP, -⟩ := className_of_methodNamed hnamed
  have hinitP : kP.init = .initialized := Cond.initialized_spec (findClass_of_methodNamed hnamed) hkP hinit
  obtain ⟨vm₁, X₁, hstep₁⟩ := X.invokestatic hexec hown hlink hnamed hmethM hstatic hkP hinitP hy (g := g) hg (argsL := argsL) (rest := rest) (hlen _ hsigM) hstack hdg
  rcases hK m meth c ⟨T.setVm vm₁, locs, cells, slots⟩ { g with stack := rest } (.invokestatic index) mk argsL.toArray X₁ hg hsize hdg hW (X₁.named hnamed) (hpre vm₁ X₁.warmed) with ⟨v, B, X', hpost, hsteps⟩ | ⟨q, B, X', hpost, hsteps⟩
  · exact Or.inl ⟨v, vm₁, B, X₁.warmed, X', hpost, fun target h => hstep₁ _ fun acts => by rw [doInvoke_state]; exact hsteps.trans h⟩
  · exact Or.inr ⟨q, vm₁, B, X₁.warmed, X', hpost, hstep₁ _ fun acts => by rw [doInvoke_state]; exact hsteps⟩
end Calls
theorem vx_cls {s : State} {T : State} {vm₁ : Vm} {E : String} {k : ClassId} (hW : s.WarmedH vm₁) (h : (T.setVm vm₁).vm.findClass E = some k) : s.vm.findClass E = some k := by
  have h1 : vm₁.findClass E = some k := h
  rw [hW.alike.findClass] at h1
  exact h1
/-- the method's frame g, with q thrown over it -/
def vx_W (p : Program) (l : Launch) (e : Env) (R : Room) (s : State) (m : MethodId) (args : Array Value) (below : List Frame) (meth : Method) (c : Code) (H : Heap) (locs : List Loc) (cells slots : Nat) (Q : State → Prop) (g : JFrame) (q : Addr) : Prop :=
  ∀ T : State, T.heap = H → Stand p l e R s m args below meth c T locs cells slots → ∃ t, Steps p.tables e below ((T.setTop g).pushFrame (.throwing q)) t ∧ Q t
def vx_Run (p : Program) (l : Launch) (e : Env) (R : Room) (s : State) (m : MethodId) (args : Array Value) (below : List Frame) (meth : Method) (c : Code) (H : Heap) (locs : List Loc) (cells slots mc ms : Nat) (g : JFrame) (rest : List Value) (Qa : State → Outcome → State → Prop) (XC : String → State → State → Prop) (free : Addr → Prop) : Prop :=
  ∀ T : State, T.heap = H → Stand p l e R s m args below meth c T locs cells slots →
    (∃ (v : Option Value) (st₀ t T' : State) (L : List Loc), st₀.heap = H ∧ Stand p l e R s m args below meth c T' (locs ++ L) (cells + mc) (slots + ms) ∧ (∀ q ∈ L, free q.base) ∧ T'.heap = t.heap ∧ T'.vm = t.vm ∧ Qa st₀ (.returned v) t ∧
      Goes p e below T g T' { g with pc := g.pc + 3, stack := v.toList ++ rest }) ∨
    (∃ (q : Addr) (st₀ t T' : State) (L : List Loc) (E : String) (ce : Cell), st₀.heap = H ∧ Stand p l e R s m args below meth c T' (locs ++ L) (cells + mc) (slots + ms) ∧ (∀ z ∈ L, free z.base) ∧ T'.heap = t.heap ∧ T'.vm = t.vm ∧ XC E st₀ t ∧ t.heap[q]? = some ce ∧ ce.vm = .none ∧ s.vm.findClass E = some ce.cls ∧
      Steps p.tables e below (T.setTop g) ((T'.setTop { g with stack := rest }).pushFrame (.throwing q)))
def vx_X {S : Type} (px : S → Prop) (B : String → S → State → Prop) (A : Nat → Prop) : String → State → State → Prop := fun E st t => ∃ u : S, px u ∧ B E u t ∧ va_F A st t
section Runs
variable {p : Program} {l : Launch} {e : Env} {R : Room} {s : State} {m : MethodId} {args : Array Value} {below : List Frame} {meth : Method} {c : Code} {H : Heap} {locs : List Loc} {cells slots : Nat}
variable {y : MethodName} {bytes cc : ByteArray} {maxL nL mc ms n index : Nat} {ret : Option FieldType} {ws : List Cond} {rm : Room} {Pc : Array Value → State → Prop} {Qc : Array Value → State → Outcome → State → Prop} {XC : String → State → State → Prop} {free : Addr → Prop} {Ts : List Cond} {own C : String} {b : Addr} {As rest : List Value} {g : JFrame}
theorem vx_callBack (cb : CallB R s args own index y bytes maxL ret ws rm mc ms n) (hM : vx_Met l y ws rm Pc Qc XC mc ms free) (hbl : FrameBlind Pc) : vx_Back l R p e below s args y 3 8 (PreOf R mc ms Pc) (PostOf Qc mc ms free) (vx_Post XC mc ms free) := by
  obtain ⟨hrc, hrs, hfr, hlo, hws, hcw, -, hini, -⟩ := cb
  exact vx_back (bytes := bytes) (maxL := maxL) (ret := ret) hM hbl hrc hrs hfr hlo hws hcw (fun a' U hW => word_at hW (Or.inl (by first | rfl | simp [Cond.onTables, Cond.keeps, Cond.steady])) hini)
theorem vx_runV (S : CallFix p m c cc nL s args Ts own) (hM : vx_Met l y ws rm Pc Qc XC mc ms free) (cw : CallW R s args own C index y bytes maxL ret ws rm mc ms n) (hp : PreV s H C b Pc As)
    (hg : g.method = m) (hn : As.length = n) (hsize : g.locals.size = nL) (hstack : g.stack = As.reverse ++ .ref b :: rest) (hW : 2 * g.monitorRoom + (rest.map fun v => v.category).sum ≤ 8) (hdg : decode cc g.pc = .ok (.invokevirtual index, 3)) (hf : cells + mc ≤ R.cells ∧ slots + ms ≤ R.slots) :
    vx_Run p l e R s m args below meth c H locs cells slots mc ms g rest (Qc (Value.ref b :: As).toArray) XC free := by
  have hK : vx_Back l R p e below s args y 3 8 (PreOf R mc ms Pc) (PostOf Qc mc ms free) (vx_Post XC mc ms free) := vx_callBack cw.1 hM hp.1
  obtain ⟨⟨-, -, -, -, -, -, hcode, -, hy, hlen, hl⟩, hin, hse⟩ := cw
  obtain ⟨hx, hb, hml, ho, -⟩ := S
  obtain ⟨-, ⟨cellB, hcB, hoB, hclB⟩, hPc⟩ := hp
  intro T hT X
  rcases vx_callV X hx (C := C) (bytes := bytes) (maxL := maxL) (ret := ret) ho hl hin hse hcode hy hK (by rw [hT]; exact hcB) hoB hclB hg (hsize.trans hml.symm) (argsL := As) (rest := rest) (fun sig h => hn.trans (hlen sig h)) hstack hW (by rw [hb]; exact hdg)
    (fun vm₁ hW₁ => ⟨hf.1, hf.2, hPc (T.setVm vm₁) hT hW₁⟩) with ⟨v, vm₁, ⟨U', l2, c2, s2⟩, hW₁, X', ⟨g', mk, t, L, e1, e2, hq, h1, hL, h2, h3⟩, st⟩ | ⟨q, vm₁, ⟨U', l2, c2, s2⟩, hW₁, X', ⟨g', mk, t, L, E, ce, e1, e2, hq, hce, hcv, hcl, h1, hL, h2, h3⟩, st⟩
  · dsimp only [Pt.U, Pt.locs, Pt.cells, Pt.slots] at X' e1 e2 h1 h2 h3 st
    subst h1; subst h2; subst h3
    exact Or.inl ⟨v, (T.setVm vm₁).calling g' mk (Value.ref b :: As).toArray, t, U', L, hT, X', hL, e1, e2, hq, st⟩
  · dsimp only [Pt.U, Pt.locs, Pt.cells, Pt.slots] at X' e1 e2 h1 h2 h3 st hcl
    subst h1; subst h2; subst h3
    exact Or.inr ⟨q, (T.setVm vm₁).calling g' mk (Value.ref b :: As).toArray, t, U', L, E, ce, hT, X', hL, e1, e2, hq, hce, hcv, vx_cls hW₁ hcl, st⟩
theorem vx_runS (S : CallFix p m c cc nL s args Ts own) (hM : vx_Met l y ws rm Pc Qc XC mc ms free) (cw : CallB R s args own index y bytes maxL ret ws rm mc ms n ∧ (Cond.static y).before args s = true) (hp : PreS s H Pc As)
    (hg : g.method = m) (hn : As.length = n) (hsize : g.locals.size = nL) (hstack : g.stack = As.reverse ++ rest) (hW : 2 * g.monitorRoom + (rest.map fun v => v.category).sum ≤ 8) (hdg : decode cc g.pc = .ok (.invokestatic index, 3)) (hf : cells + mc ≤ R.cells ∧ slots + ms ≤ R.slots) :
    vx_Run p l e R s m args below meth c H locs cells slots mc ms g rest (Qc As.toArray) XC free := by
  have hK : vx_Back l R p e below s args y 3 8 (PreOf R mc ms Pc) (PostOf Qc mc ms free) (vx_Post XC mc ms free) := vx_callBack cw.1 hM hp.1
  obtain ⟨⟨-, -, -, -, -, -, hcode, hini, hy, hlen, hl⟩, hstt⟩ := cw
  obtain ⟨hx, hb, hml, ho, -⟩ := S
  intro T hT X
  rcases vx_callS X hx (bytes := bytes) (maxL := maxL) (ret := ret) ho hl hstt hini hcode hy hK hg (hsize.trans hml.symm) (argsL := As) (rest := rest) (fun sig h => hn.trans (hlen sig h)) hstack hW (by rw [hb]; exact hdg)
    (fun vm₁ hW₁ => ⟨hf.1, hf.2, hp.2 (T.setVm vm₁) hT hW₁⟩) with ⟨v, vm₁, ⟨U', l2, c2, s2⟩, hW₁, X', ⟨g', mk, t, L, e1, e2, hq, h1, hL, h2, h3⟩, st⟩ | ⟨q, vm₁, ⟨U', l2, c2, s2⟩, hW₁, X', ⟨g', mk, t, L, E, ce, e1, e2, hq, hce, hcv, hcl, h1, hL, h2, h3⟩, st⟩
  · dsimp only [Pt.U, Pt.locs, Pt.cells, Pt.slots] at X' e1 e2 h1 h2 h3 st
    subst h1; subst h2; subst h3
    exact Or.inl ⟨v, (T.setVm vm₁).calling g' mk As.toArray, t, U', L, hT, X', hL, e1, e2, hq, st⟩
  · dsimp only [Pt.U, Pt.locs, Pt.cells, Pt.slots] at X' e1 e2 h1 h2 h3 st hcl
    subst h1; subst h2; subst h3
    exact Or.inr ⟨q, (T.setVm vm₁).calling g' mk As.toArray, t, U', L, E, ce, hT, X', hL, e1, e2, hq, hce, hcv, vx_cls hW₁ hcl, st⟩
end Runs
section Rows
variable {p : Program} {l : Launch} {e : Env} {R : Room} {s : State} {m : MethodId} {args : Array Value} {below : List Frame} {meth : Method} {c : Code} {H : Heap} {locs : List Loc} {cells slots : Nat} {Q : State → Prop}
variable {mc ms : Nat} {free : Addr → Prop} {A0 A1 : Nat → Prop} {H0 : Heap} {a : Array Value} {pc : Nat} {ls : Array Slot} {st0 rest : List Value}
theorem vx_keep {st₀ t T' : State} {L : List Loc} (h0 : st₀.heap = H) (e1 : T'.heap = t.heap) (hS : va_S A0 H0 H locs) (hA : ∀ q, q < H.size → A1 q → A0 q) (hf : ∀ q, free q → A0 q) (hL : ∀ q ∈ L, free q.base) (hF : va_F A1 st₀ t) :
    H.size ≤ T'.heap.size ∧ (∀ q : Nat, q < H.size → ¬ A1 q → T'.heap[q]? = H[q]?) ∧ va_S A0 H0 T'.heap (locs ++ L) := by
  obtain ⟨hz, hk⟩ := hF
  rw [h0] at hz hk
  exact ⟨by rw [e1]; exact hz, fun q h1 h2 => by rw [e1]; exact hk q h1 h2,
    ⟨Nat.le_trans hS.1 (by rw [e1]; exact hz), fun q h1 h2 => by rw [e1, hk q (Nat.lt_of_lt_of_le h1 hS.1) (fun z => h2 (hA q (Nat.lt_of_lt_of_le h1 hS.1) z))]; exact hS.2.1 q h1 h2, fun q hq => by
      rcases List.mem_append.mp hq with h | h
      · exact hS.2.2 q h
      · exact hf _ (hL q h)⟩⟩
theorem vx_calli {S SX : Type} {post : Int32 → S → Prop} {px : SX → Prop} {B : S → State → Prop} {BX : String → SX → State → Prop} {AX : Nat → Prop} (hr : vx_Run p l e R s m args below meth c H locs cells slots mc ms (F0 m pc ls st0) rest (va_Qi post B A1 a) (vx_X px BX AX) free) (hS : va_S A0 H0 H locs) (hA : ∀ q, q < H.size → A1 q → A0 q) (hf : ∀ q, free q → A0 q) (hAX : ∀ q, q < H.size → AX q → A0 q)
    (kx : ∀ (E : String) (ce : Cell) (q9 : Addr) (u : SX) (t : State) (H1 : Heap) (locs1 : List Loc), t.heap = H1 → s.vm.Alike t.vm → px u → BX E u t → H.size ≤ H1.size → (∀ q : Nat, q < H.size → ¬ AX q → H1[q]? = H[q]?) → va_S A0 H0 H1 locs1 → H1[q9]? = some ce → ce.vm = .none → s.vm.findClass E = some ce.cls → vx_W p l e R s m args below meth c H1 locs1 (cells + mc) (slots + ms) Q (F0 m pc ls rest) q9)
    (kk : ∀ (r : Int32) (u : S) (t : State) (H1 : Heap) (locs1 : List Loc), t.heap = H1 → s.vm.Alike t.vm → post r u → B u t → H.size ≤ H1.size → (∀ q : Nat, q < H.size → ¬ A1 q → H1[q]? = H[q]?) → va_S A0 H0 H1 locs1 → W p l e R s m args below meth c H1 locs1 (cells + mc) (slots + ms) Q (F0 m (pc + 3) ls (.int r :: rest))) : W p l e R s m args below meth c H locs cells slots Q (F0 m pc ls st0) := by
  intro T hT X
  rcases hr T hT X with ⟨v, st₀, t, T', L, h0, X', hL, e1, e2, ⟨⟨r, u, hv, hp, hb⟩, hF⟩, st⟩ | ⟨q, st₀, t, T', L, E, ce, h0, X', hL, e1, e2, ⟨u, hp, hb, hF⟩, hce, hcv, hcl, st⟩
  · cases hv
    obtain ⟨k1, k2, k3⟩ := vx_keep h0 e1 hS hA hf hL hF
    obtain ⟨t2, a1, b1⟩ := kk r u t T'.heap (locs ++ L) e1.symm (by rw [← e2]; exact X'.warmed.alike) hp hb k1 k2 k3 T' rfl X'
    exact ⟨t2, st t2 a1, b1⟩
  · obtain ⟨k1, k2, k3⟩ := vx_keep h0 e1 hS hAX hf hL hF
    obtain ⟨t2, a1, b1⟩ := kx E ce q u t T'.heap (locs ++ L) e1.symm (by rw [← e2]; exact X'.warmed.alike) hp hb k1 k2 k3 (by rw [e1]; exact hce) hcv hcl T' rfl X'
    exact ⟨t2, st.trans a1, b1⟩
theorem vx_calll {S SX : Type} {post : Int64 → S → Prop} {px : SX → Prop} {B : S → State → Prop} {BX : String → SX → State → Prop} {AX : Nat → Prop} (hr : vx_Run p l e R s m args below meth c H locs cells slots mc ms (F0 m pc ls st0) rest (va_Ql post B A1 a) (vx_X px BX AX) free) (hS : va_S A0 H0 H locs) (hA : ∀ q, q < H.size → A1 q → A0 q) (hf : ∀ q, free q → A0 q) (hAX : ∀ q, q < H.size → AX q → A0 q)
    (kx : ∀ (E : String) (ce : Cell) (q9 : Addr) (u : SX) (t : State) (H1 : Heap) (locs1 : List Loc), t.heap = H1 → s.vm.Alike t.vm → px u → BX E u t → H.size ≤ H1.size → (∀ q : Nat, q < H.size → ¬ AX q → H1[q]? = H[q]?) → va_S A0 H0 H1 locs1 → H1[q9]? = some ce → ce.vm = .none → s.vm.findClass E = some ce.cls → vx_W p l e R s m args below meth c H1 locs1 (cells + mc) (slots + ms) Q (F0 m pc ls rest) q9)
    (kk : ∀ (r : Int64) (u : S) (t : State) (H1 : Heap) (locs1 : List Loc), t.heap = H1 → s.vm.Alike t.vm → post r u → B u t → H.size ≤ H1.size → (∀ q : Nat, q < H.size → ¬ A1 q → H1[q]? = H[q]?) → va_S A0 H0 H1 locs1 → W p l e R s m args below meth c H1 locs1 (cells + mc) (slots + ms) Q (F0 m (pc + 3) ls (.long r :: rest))) : W p l e R s m args below meth c H locs cells slots Q (F0 m pc ls st0) := by
  intro T hT X
  rcases hr T hT X with ⟨v, st₀, t, T', L, h0, X', hL, e1, e2, ⟨⟨r, u, hv, hp, hb⟩, hF⟩, st⟩ | ⟨q, st₀, t, T', L, E, ce, h0, X', hL, e1, e2, ⟨u, hp, hb, hF⟩, hce, hcv, hcl, st⟩
  · cases hv
    obtain ⟨k1, k2, k3⟩ := vx_keep h0 e1 hS hA hf hL hF
    obtain ⟨t2, a1, b1⟩ := kk r u t T'.heap (locs ++ L) e1.symm (by rw [← e2]; exact X'.warmed.alike) hp hb k1 k2 k3 T' rfl X'
    exact ⟨t2, st t2 a1, b1⟩
  · obtain ⟨k1, k2, k3⟩ := vx_keep h0 e1 hS hAX hf hL hF
    obtain ⟨t2, a1, b1⟩ := kx E ce q u t T'.heap (locs ++ L) e1.symm (by rw [← e2]; exact X'.warmed.alike) hp hb k1 k2 k3 (by rw [e1]; exact hce) hcv hcl T' rfl X'
    exact ⟨t2, st.trans a1, b1⟩
theorem vx_callf {S SX : Type} {post : UInt32 → S → Prop} {px : SX → Prop} {B : S → State → Prop} {BX : String → SX → State → Prop} {AX : Nat → Prop} (hr : vx_Run p l e R s m args below meth c H locs cells slots mc ms (F0 m pc ls st0) rest (va_Qf post B A1 a) (vx_X px BX AX) free) (hS : va_S A0 H0 H locs) (hA : ∀ q, q < H.size → A1 q → A0 q) (hf : ∀ q, free q → A0 q) (hAX : ∀ q, q < H.size → AX q → A0 q)
    (kx : ∀ (E : String) (ce : Cell) (q9 : Addr) (u : SX) (t : State) (H1 : Heap) (locs1 : List Loc), t.heap = H1 → s.vm.Alike t.vm → px u → BX E u t → H.size ≤ H1.size → (∀ q : Nat, q < H.size → ¬ AX q → H1[q]? = H[q]?) → va_S A0 H0 H1 locs1 → H1[q9]? = some ce → ce.vm = .none → s.vm.findClass E = some ce.cls → vx_W p l e R s m args below meth c H1 locs1 (cells + mc) (slots + ms) Q (F0 m pc ls rest) q9)
    (kk : ∀ (r : UInt32) (u : S) (t : State) (H1 : Heap) (locs1 : List Loc), t.heap = H1 → s.vm.Alike t.vm → post r u → B u t → H.size ≤ H1.size → (∀ q : Nat, q < H.size → ¬ A1 q → H1[q]? = H[q]?) → va_S A0 H0 H1 locs1 → W p l e R s m args below meth c H1 locs1 (cells + mc) (slots + ms) Q (F0 m (pc + 3) ls (.float r :: rest))) : W p l e R s m args below meth c H locs cells slots Q (F0 m pc ls st0) := by
  intro T hT X
  rcases hr T hT X with ⟨v, st₀, t, T', L, h0, X', hL, e1, e2, ⟨⟨r, u, hv, hp, hb⟩, hF⟩, st⟩ | ⟨q, st₀, t, T', L, E, ce, h0, X', hL, e1, e2, ⟨u, hp, hb, hF⟩, hce, hcv, hcl, st⟩
  · cases hv
    obtain ⟨k1, k2, k3⟩ := vx_keep h0 e1 hS hA hf hL hF
    obtain ⟨t2, a1, b1⟩ := kk r u t T'.heap (locs ++ L) e1.symm (by rw [← e2]; exact X'.warmed.alike) hp hb k1 k2 k3 T' rfl X'
    exact ⟨t2, st t2 a1, b1⟩
  · obtain ⟨k1, k2, k3⟩ := vx_keep h0 e1 hS hAX hf hL hF
    obtain ⟨t2, a1, b1⟩ := kx E ce q u t T'.heap (locs ++ L) e1.symm (by rw [← e2]; exact X'.warmed.alike) hp hb k1 k2 k3 (by rw [e1]; exact hce) hcv hcl T' rfl X'
    exact ⟨t2, st.trans a1, b1⟩
theorem vx_calld {S SX : Type} {post : UInt64 → S → Prop} {px : SX → Prop} {B : S → State → Prop} {BX : String → SX → State → Prop} {AX : Nat → Prop} (hr : vx_Run p l e R s m args below meth c H locs cells slots mc ms (F0 m pc ls st0) rest (va_Qd post B A1 a) (vx_X px BX AX) free) (hS : va_S A0 H0 H locs) (hA : ∀ q, q < H.size → A1 q → A0 q) (hf : ∀ q, free q → A0 q) (hAX : ∀ q, q < H.size → AX q → A0 q)
    (kx : ∀ (E : String) (ce : Cell) (q9 : Addr) (u : SX) (t : State) (H1 : Heap) (locs1 : List Loc), t.heap = H1 → s.vm.Alike t.vm → px u → BX E u t → H.size ≤ H1.size → (∀ q : Nat, q < H.size → ¬ AX q → H1[q]? = H[q]?) → va_S A0 H0 H1 locs1 → H1[q9]? = some ce → ce.vm = .none → s.vm.findClass E = some ce.cls → vx_W p l e R s m args below meth c H1 locs1 (cells + mc) (slots + ms) Q (F0 m pc ls rest) q9)
    (kk : ∀ (r : UInt64) (u : S) (t : State) (H1 : Heap) (locs1 : List Loc), t.heap = H1 → s.vm.Alike t.vm → post r u → B u t → H.size ≤ H1.size → (∀ q : Nat, q < H.size → ¬ A1 q → H1[q]? = H[q]?) → va_S A0 H0 H1 locs1 → W p l e R s m args below meth c H1 locs1 (cells + mc) (slots + ms) Q (F0 m (pc + 3) ls (.double r :: rest))) : W p l e R s m args below meth c H locs cells slots Q (F0 m pc ls st0) := by
  intro T hT X
  rcases hr T hT X with ⟨v, st₀, t, T', L, h0, X', hL, e1, e2, ⟨⟨r, u, hv, hp, hb⟩, hF⟩, st⟩ | ⟨q, st₀, t, T', L, E, ce, h0, X', hL, e1, e2, ⟨u, hp, hb, hF⟩, hce, hcv, hcl, st⟩
  · cases hv
    obtain ⟨k1, k2, k3⟩ := vx_keep h0 e1 hS hA hf hL hF
    obtain ⟨t2, a1, b1⟩ := kk r u t T'.heap (locs ++ L) e1.symm (by rw [← e2]; exact X'.warmed.alike) hp hb k1 k2 k3 T' rfl X'
    exact ⟨t2, st t2 a1, b1⟩
  · obtain ⟨k1, k2, k3⟩ := vx_keep h0 e1 hS hAX hf hL hF
    obtain ⟨t2, a1, b1⟩ := kx E ce q u t T'.heap (locs ++ L) e1.symm (by rw [← e2]; exact X'.warmed.alike) hp hb k1 k2 k3 (by rw [e1]; exact hce) hcv hcl T' rfl X'
    exact ⟨t2, st.trans a1, b1⟩
theorem vx_callv {S SX : Type} {post : S → Prop} {px : SX → Prop} {B : S → State → Prop} {BX : String → SX → State → Prop} {AX : Nat → Prop} (hr : vx_Run p l e R s m args below meth c H locs cells slots mc ms (F0 m pc ls st0) rest (va_Qv post B A1 a) (vx_X px BX AX) free) (hS : va_S A0 H0 H locs) (hA : ∀ q, q < H.size → A1 q → A0 q) (hf : ∀ q, free q → A0 q) (hAX : ∀ q, q < H.size → AX q → A0 q)
    (kx : ∀ (E : String) (ce : Cell) (q9 : Addr) (u : SX) (t : State) (H1 : Heap) (locs1 : List Loc), t.heap = H1 → s.vm.Alike t.vm → px u → BX E u t → H.size ≤ H1.size → (∀ q : Nat, q < H.size → ¬ AX q → H1[q]? = H[q]?) → va_S A0 H0 H1 locs1 → H1[q9]? = some ce → ce.vm = .none → s.vm.findClass E = some ce.cls → vx_W p l e R s m args below meth c H1 locs1 (cells + mc) (slots + ms) Q (F0 m pc ls rest) q9)
    (kk : ∀ (u : S) (t : State) (H1 : Heap) (locs1 : List Loc), t.heap = H1 → s.vm.Alike t.vm → post u → B u t → H.size ≤ H1.size → (∀ q : Nat, q < H.size → ¬ A1 q → H1[q]? = H[q]?) → va_S A0 H0 H1 locs1 → W p l e R s m args below meth c H1 locs1 (cells + mc) (slots + ms) Q (F0 m (pc + 3) ls (rest))) : W p l e R s m args below meth c H locs cells slots Q (F0 m pc ls st0) := by
  intro T hT X
  rcases hr T hT X with ⟨v, st₀, t, T', L, h0, X', hL, e1, e2, ⟨⟨u, hv, hp, hb⟩, hF⟩, st⟩ | ⟨q, st₀, t, T', L, E, ce, h0, X', hL, e1, e2, ⟨u, hp, hb, hF⟩, hce, hcv, hcl, st⟩
  · cases hv
    obtain ⟨k1, k2, k3⟩ := vx_keep h0 e1 hS hA hf hL hF
    obtain ⟨t2, a1, b1⟩ := kk u t T'.heap (locs ++ L) e1.symm (by rw [← e2]; exact X'.warmed.alike) hp hb k1 k2 k3 T' rfl X'
    exact ⟨t2, st t2 a1, b1⟩
  · obtain ⟨k1, k2, k3⟩ := vx_keep h0 e1 hS hAX hf hL hF
    obtain ⟨t2, a1, b1⟩ := kx E ce q u t T'.heap (locs ++ L) e1.symm (by rw [← e2]; exact X'.warmed.alike) hp hb k1 k2 k3 (by rw [e1]; exact hce) hcv hcl T' rfl X'
    exact ⟨t2, st.trans a1, b1⟩
/-- caught by the row x of this method's table; the rows ahead don't take it -/
theorem vx_catch {own name : String} {E : String} {ce : Cell} {q : Addr} (hown : s.vm.findClass own = some m.cls) (pre : List ExceptionTableEntry) (x : ExceptionTableEntry) (suf : List ExceptionTableEntry) (hsplit : c.exceptionTable.toList = pre ++ x :: suf)
    (hpass : ∀ z ∈ pre, covers z pc = false ∨ (z.catchType ≠ 0 ∧ ∃ nm : String, (Cond.classLink own z.catchType nm).before args s = true ∧ va_Nc E nm s)) (hx : covers x pc = true) (h0 : x.catchType ≠ 0)
    (hlink : (Cond.classLink own x.catchType name).before args s = true) (hcast : (Cond.castable E name).before args s = true) (hcell : H[q]? = some ce) (hv : ce.vm = .none) (hcl : s.vm.findClass E = some ce.cls)
    (kk : W p l e R s m args below meth c H locs cells slots Q (F0 m x.handlerPc ls [.ref q])) : vx_W p l e R s m args below meth c H locs cells slots Q (F0 m pc ls rest) q := by
  intro T hT X
  have hpl : e.platform.magicAccessors = ({} : Platform).magicAccessors := by rw [X.admits.platform]
  obtain ⟨c3, c4, hc3, hc4, hasg⟩ := Cond.castable_spec hcast
  cases Option.some.inj (hc3.symm.trans hcl)
  obtain ⟨c5, hc5, hcl5⟩ := Cond.classLink_spec hown hlink e.platform hpl
  cases Option.some.inj (hc4.symm.trans hc5)
  obtain ⟨vm', X', st⟩ := X.thenCaughtThrough q (g := F0 m pc ls rest) rfl (Steps.refl _) (by rw [hT]; exact hcell) (by rw [hv]; rfl) (by obtain ⟨k9, h9, -⟩ := Vm.findClass_spec hcl; exact ⟨k9, h9⟩) pre x suf hsplit
    (fun z hz => by
      rcases hpass z hz with h | ⟨hz0, nm, hl1, hn1⟩
      · exact Or.inl h
      · obtain ⟨c6, hc6, hcl6⟩ := Cond.classLink_spec hown hl1 e.platform hpl
        obtain ⟨a8, b8, h1, h2, h3⟩ := hn1
        cases Option.some.inj (h1.symm.trans hcl)
        cases Option.some.inj (h2.symm.trans hc6)
        exact Or.inr ⟨hz0, _, hcl6, h3⟩) hx (Or.inr ⟨h0, c4, hcl5, hasg⟩)
  obtain ⟨t, a1, b1⟩ := kk (T.setVm vm') hT X'
  exact ⟨t, st.trans a1, b1⟩
end Rows
section Ends
variable {p : Program} {l : Launch} {e : Env} {R : Room} {s : State} {m : MethodId} {args : Array Value} {below : List Frame} {meth : Method} {c : Code} {H : Heap} {locs : List Loc} {cells slots : Nat} {Q : State → Prop}
variable {mc ms : Nat} {free : Addr → Prop} {A0 A1 : Nat → Prop} {H0 : Heap} {a : Array Value} {ls : Array Slot} {st0 rest : List Value}
variable {Qc : Array Value → State → Outcome → State → Prop} {XC : String → State → State → Prop}
/-- what a body that may throw owes at its end -/
def vx_MQ (below : List Frame) (Qc : Array Value → State → Outcome → State → Prop) (XC : String → State → State → Prop) (a : Array Value) (s : State) (mc ms : Nat) (free : Addr → Prop) : State → Prop := fun t =>
  ∃ o, t.status = .running ∧ Ended t below o ∧ vx_Q Qc XC mc ms free a s o t
theorem vx_ret {g : JFrame} {mc ms : Nat} (k : W p l e R s m args below meth c H locs cells slots (MQ below Qc args s mc ms free) g) : W p l e R s m args below meth c H locs cells slots (vx_MQ below Qc XC args s mc ms free) g := by
  intro T hT X
  obtain ⟨t, a1, o, b1, b2, b3, b4⟩ := k T hT X
  exact ⟨t, a1, o, b1, b2, Or.inl ⟨b3, b4⟩⟩
/-- not caught here: it goes on to the caller -/
theorem vx_widen {g : JFrame} {q : Addr} {k n : Nat} (h1 : cells ≤ k) (h2 : slots ≤ n) (kk : vx_W p l e R s m args below meth c H locs k n Q g q) : vx_W p l e R s m args below meth c H locs cells slots Q g q := fun T hT X => kk T hT (stand_widen X h1 h2)
theorem vx_out {pc : Nat} {E : String} {ce : Cell} {q : Addr} {mc ms : Nat} (hout : ∀ x ∈ c.exceptionTable.toList, covers x pc = false) (hlocks : meth.locks = false) (hcell : H[q]? = some ce) (hv : ce.vm = .none) (hcl : s.vm.findClass E = some ce.cls)
    (hx : ∀ t : State, t.heap = H → s.vm.Alike t.vm → XC E s t) (hf : ∀ z ∈ locs, free z.base) (hc : cells ≤ mc) (hs : slots ≤ ms) :
    vx_W p l e R s m args below meth c H locs cells slots (vx_MQ below Qc XC args s mc ms free) (F0 m pc ls rest) q := by
  intro T hT X
  obtain ⟨st1, hrun, hend, hW, hsm⟩ := X.leaveThrown q (g := F0 m pc ls rest) rfl rfl rfl hout hlocks
  have hcell9 : (T.setFrames (.throwing q :: below)).heap[q]? = some ce := by
    show T.heap[q]? = some ce
    rw [hT]; exact hcell
  exact ⟨_, st1, .threw q, hrun, hend, Or.inr ⟨q, rfl, E, ce, locs, hx _ hT hW.alike, hcell9, hv, hcl, hW, hsm.mono hc hs, hf⟩⟩
theorem vx_frame {U : State} {k n : Nat} (h : s.sameButNew ({ U with vm := s.vm } : State) locs k n) : s.heap.size ≤ U.heap.size ∧ ∀ q : Nat, q < s.heap.size → (∀ z ∈ locs, z.base ≠ q) → U.heap[q]? = s.heap[q]? := by
  obtain ⟨-, h2, -, -, -, h6⟩ := h
  refine ⟨h2, fun q hq hz => ?_⟩
  obtain ⟨c9, e1, e2, e3, e4⟩ := h6 q _ (Array.getElem?_eq_getElem hq)
  have hs : c9.slots = (s.heap[q]).slots := Array.ext_getElem? fun i => e4 i fun hm => hz _ hm rfl
  have h9 : c9 = s.heap[q] := by
    rw [hs] at e2
    exact e2
  have e5 : U.heap[q]? = some c9 := e1
  rw [e5, h9, Array.getElem?_eq_getElem hq]
/-- the words of a throw but the four that speak of the heap -/
def vx_no (w : Cond) : Bool := decide (w ≠ .isRef (.static Bundle.tN "UNASSIGNED_STACK" Bundle.steD)) && decide (w ≠ .isRef (.static Bundle.tN "SUPPRESSED_SENTINEL" Bundle.listD)) && decide (w ≠ .laysStatic Bundle.tN "UNASSIGNED_STACK" Bundle.steD) && decide (w ≠ .laysStatic Bundle.tN "SUPPRESSED_SENTINEL" Bundle.listD)
def vx_at0 (own : String) (ic : Nat) (X : String) (names : List String) : List Cond := (Bundle.ownAtoms0 own ic X names).filter vx_no
def vx_atS (own : String) (ic : Nat) (X : String) (names : List String) : List Cond := (Bundle.ownAtoms own ic X names).filter vx_no
/-- a word that the tables alone decide, or a good one -/
def vx_ot (w : Cond) : Bool := w.onTables || goodWord w
theorem vx_ot_at {args a' : Array Value} {s U : State} {w : Cond} (hW : s.WarmedH U.vm) (hvm : s.vm = U.vm) (hg : vx_ot w = true) (h : w.before args s = true) : w.before a' U = true := by
  simp only [vx_ot, Bool.or_eq_true] at hg
  rcases hg with hg | hg
  · exact va_tabs hg hvm h
  · exact word_at hW (good_of_word hg) h
/-- a list's words: the good ones out of the method's own list, the others by premises of their own -/
theorem vx_hat {args : Array Value} {s : State} {L B : List Cond} (h1 : ∀ w ∈ L.filter goodWord, w.before args s = true) (h2 : ∀ w ∈ L.filter (fun w => !goodWord w), w ∈ B) (h3 : ∀ w ∈ B, w.before args s = true) : ∀ w ∈ L, w.before args s = true := by
  intro w hw
  by_cases g : goodWord w = true
  · exact h1 w (List.mem_filter.mpr ⟨hw, g⟩)
  · refine h3 w (h2 w (List.mem_filter.mpr ⟨hw, ?_⟩))
    show (!goodWord w) = true
    cases hgw : goodWord w
    · rfl
    · exact absurd hgw g
theorem vx_c {args : Array Value} {s : State} {w : Cond} {B : List Cond} (h : w.before args s = true) (t : ∀ w ∈ B, w.before args s = true) : ∀ w' ∈ w :: B, w'.before args s = true := fun w' h' => (List.mem_cons.mp h').elim (fun e => by rw [e]; exact h) (t w')
theorem vx_n {args : Array Value} {s : State} : ∀ w ∈ ([] : List Cond), w.before args s = true := fun _ h => nomatch h
theorem vx_own {args : Array Value} {s : State} {L : List Cond} (h1 : ∀ w ∈ L.filter vx_no, w.before args s = true)
    (hU : (Cond.isRef (.static Bundle.tN "UNASSIGNED_STACK" Bundle.steD)).before args s = true) (hN : (Cond.isRef (.static Bundle.tN "SUPPRESSED_SENTINEL" Bundle.listD)).before args s = true)
    (lU : (Cond.laysStatic Bundle.tN "UNASSIGNED_STACK" Bundle.steD).before args s = true) (lN : (Cond.laysStatic Bundle.tN "SUPPRESSED_SENTINEL" Bundle.listD).before args s = true) : ∀ w ∈ L, w.before args s = true := by
  intro w hw
  by_cases e1 : w = .isRef (.static Bundle.tN "UNASSIGNED_STACK" Bundle.steD)
  · rw [e1]; exact hU
  · by_cases e2 : w = .isRef (.static Bundle.tN "SUPPRESSED_SENTINEL" Bundle.listD)
    · rw [e2]; exact hN
    · by_cases e3 : w = .laysStatic Bundle.tN "UNASSIGNED_STACK" Bundle.steD
      · rw [e3]; exact lU
      · by_cases e4 : w = .laysStatic Bundle.tN "SUPPRESSED_SENTINEL" Bundle.listD
        · rw [e4]; exact lN
        · exact h1 w (List.mem_filter.mpr ⟨hw, by unfold vx_no; rw [decide_eq_true e1, decide_eq_true e2, decide_eq_true e3, decide_eq_true e4]; rfl⟩)
/-- where a static field lies, its class's statics cell in H -/
def vx_L (C n d : String) (A : Nat → Prop) (U : State) (H : Heap) : Prop := ∃ (c : ClassId) (k : Class) (i : Nat) (f : Field) (a : Nat) (cell : Cell), U.vm.findClass C = some c ∧ U.fieldFound? C n d = some (c, k, i, f) ∧ f.isStatic = true ∧ k.statics = some a ∧ H[a]? = some cell ∧ cell.vm.isStatics = true ∧ cell.cls = c ∧ f.slot < cell.slots.size ∧ k.staticTypes[f.slot]? = some f.type ∧ ¬ A a
theorem vx_L.moved {C n d : String} {A : Nat → Prop} {u U : State} {H : Heap} (hvm : u.vm.Alike U.vm) (h : vx_L C n d A u H) : vx_L C n d A U H := by
  obtain ⟨c, k, i, f, a, cell, h1, h2, h3, h4, h5, h6, h7, h8, h9, h10⟩ := h
  obtain ⟨k', hi', he⟩ := State.fieldFound?_setVm hvm h2
  exact ⟨c, k', i, f, a, cell, by rw [hvm.findClass]; exact h1, hi', h3, by rw [he]; exact h4, h5, h6, h7, h8, by rw [he]; exact h9, h10⟩
theorem vx_L.kept {C n d : String} {A : Nat → Prop} {U : State} {H H1 : Heap} (h : vx_L C n d A U H) (hq : ∀ a : Nat, a < H.size → ¬ A a → H1[a]? = H[a]?) : vx_L C n d A U H1 := by
  obtain ⟨c, k, i, f, a, cell, h1, h2, h3, h4, h5, h6, h7, h8, h9, h10⟩ := h
  exact ⟨c, k, i, f, a, cell, h1, h2, h3, h4, by rw [hq a (Array.getElem?_eq_some_iff.mp h5).1 h10]; exact h5, h6, h7, h8, h9, h10⟩
theorem vx_L.narrow {C n d : String} {A B : Nat → Prop} {U : State} {H : Heap} (h : vx_L C n d A U H) (hAB : ∀ q, B q → A q) : vx_L C n d B U H := by
  obtain ⟨c, k, i, f, a, cell, h1, h2, h3, h4, h5, h6, h7, h8, h9, h10⟩ := h
  exact ⟨c, k, i, f, a, cell, h1, h2, h3, h4, h5, h6, h7, h8, h9, fun z => h10 (hAB _ z)⟩
theorem vx_L.word {C n d : String} {A : Nat → Prop} {s : State} {args : Array Value} (h : vx_L C n d A s s.heap) : (Cond.laysStatic C n d).before args s = true := by
  obtain ⟨c, k, i, f, a, cell, h1, h2, h3, h4, h5, h6, h7, h8, h9, -⟩ := h
  show (Cond.laysStatic C n d).holds args s none s [] = true
  exact Cond.laysStatic_of h1 h2 h3 h4 h5 h6 h7 h8 h9
/-- .. and what it holds: null or some reference -/
def vx_Zq (C n d : String) (A : Nat → Prop) (U : State) (H : Heap) : Prop := va_Zq C n d A U H ∧ vx_L C n d A U H
theorem vx_Zq.moved {C n d : String} {A : Nat → Prop} {u U : State} {H : Heap} (hvm : u.vm.Alike U.vm) (h : vx_Zq C n d A u H) : vx_Zq C n d A U H := ⟨va_Zq.moved hvm h.1, vx_L.moved hvm h.2⟩
theorem vx_Zq.kept {C n d : String} {A : Nat → Prop} {U : State} {H H1 : Heap} (h : vx_Zq C n d A U H) (hq : ∀ a : Nat, a < H.size → ¬ A a → H1[a]? = H[a]?) : vx_Zq C n d A U H1 := ⟨va_Zq.kept h.1 hq, vx_L.kept h.2 hq⟩
theorem vx_Zq.narrow {C n d : String} {A B : Nat → Prop} {U : State} {H : Heap} (h : vx_Zq C n d A U H) (hAB : ∀ q, B q → A q) : vx_Zq C n d B U H := ⟨va_Zq.narrow h.1 hAB, vx_L.narrow h.2 hAB⟩
theorem vx_Zqof {args : Array Value} {s : State} {C n d : String} {A : Nat → Prop} (hl : (Cond.laysStatic C n d).before args s = true) (hini : (Cond.initialized C).before args s = true) (h : (Cond.isRef (.static C n d)).before args s = true) (hA : ∀ a : Nat, a < s.heap.size → ¬ A a) : vx_Zq C n d A s s.heap := by
  refine ⟨va_Zqof hl hini h hA, ?_⟩
  obtain ⟨c, k, i, f, a, cell, h1, h2, h3, h4, h5, h6, h7, h8, h9⟩ := Cond.laysStatic_spec hl
  exact ⟨c, k, i, f, a, cell, h1, h2, h3, h4, h5, h6, h7, h8, h9, hA a (Array.getElem?_eq_some_iff.mp h5).1⟩
theorem vx_isRef {C n d : String} {v : Value} {A : Nat → Prop} {s : State} {args : Array Value} (h : va_Z C n d v A s s.heap) (hv : v.isRef = true) : (Cond.isRef (.static C n d)).before args s = true := by
  obtain ⟨cf, kf, fi, f, a, cell, h1, h2, h3, h4, h5, h6, h7, -⟩ := h
  have he : (Term.static C n d).eval args s none [] s = some v := by
    simp [Term.eval, State.fieldNamed?, h1, h2, h4, h5, h6, h7]
  simp only [Cond.before, Cond.holds, Cond.value, he]
  cases v <;> simp_all [Value.isRef]
theorem vx_isRefq {C n d : String} {A : Nat → Prop} {s : State} {args : Array Value} (h : va_Zq C n d A s s.heap) : (Cond.isRef (.static C n d)).before args s = true := by
  rcases h with h | ⟨t, h⟩
  · exact vx_isRef h rfl
  · exact vx_isRef h rfl
/-- the same frame, seen from here: as if the method were called anew in this heap -/
theorem vx_rebase {T : State} (X : Stand p l e R s m args below meth c T locs cells slots) {R' : Room} (hf : R'.frames ≤ R.frames) (hl : R'.locals ≤ R.locals) (hc : cells + R'.cells ≤ R.cells) (hs : slots + R'.slots ≤ R.slots) :
    Stand p l e R' ((T.setVm s.vm).setFrames (.invoking m args :: below)) m args below meth c T [] 0 0 := by
  have htop : (T.setVm s.vm).topJava?.isSome := X.here.top
  have hF : ((T.setVm s.vm).setFrames (.invoking m args :: below)).frames = .invoking m args :: below := State.frames_setFrames _ (State.cur_lt_of_top htop)
  obtain ⟨g₀, hg0⟩ := Option.isSome_iff_exists.mp htop
  obtain ⟨r, hr⟩ := State.topJava?_eq_some.mp hg0
  have hl9 : e.platform.stackLimits (T.setVm s.vm).me = e.platform.stackLimits s.me := X.limits
  have hb9 : (T.setVm s.vm).me.stackBytes = s.me.stackBytes := X.bytes
  refine ⟨X.admits, X.cas, X.clock, hF, ?_, X.hears, X.method, X.code, X.here, X.tail, X.warmed, ?_, ?_, ?_⟩
  · have h := X.room
    have hU : ((T.setVm s.vm).setFrames (.invoking m args :: below)).localsInUse = s.localsInUse := by
      rw [State.localsInUse_invoking hF (meth := meth) (c := c) X.method X.code, State.localsInUse_invoking X.frames X.method X.code]
    simp only [State.hasRoom, Bool.and_eq_true, decide_eq_true_eq] at h ⊢
    obtain ⟨⟨⟨⟨h1, h2, h3, h4, h5, h6⟩, h7⟩, h8⟩, h9⟩ := h
    rw [X.frames, List.length_cons] at h2 h3
    have q1 := X.heapSize
    have q2 := X.used
    simp only [hF, hU, List.length_cons, State.stackLimits_setFrames, State.stackBytes_setFrames, hl9, hb9]
    refine ⟨⟨⟨⟨by omega, by omega, by omega, by omega, by omega, h6⟩, ?_⟩, ?_⟩, X.book⟩
    · show T.heap.size + R'.cells ≤ e.platform.maxCells
      omega
    · show T.slotsUsed + R'.slots ≤ e.platform.maxSlots
      omega
  · rw [State.stackLimits_setFrames]; rfl
  · rw [State.stackBytes_setFrames]; rfl
  · refine ⟨?_, Nat.le_refl _, Nat.le_refl _, ?_, ?_, fun a c9 h9 => ⟨c9, h9, rfl, rfl, fun _ _ => rfl⟩⟩
    · obtain ⟨t, ht, -⟩ := State.frames_cons hr
      show T.setVm s.vm = { ((T.setVm s.vm).setFrames (.invoking m args :: below)).setFrames (T.setVm s.vm).frames with heap := T.heap, slotsUsed := T.slotsUsed }
      rw [State.setFrames_setFrames, State.setFrames_self ht]
      rfl
    · show T.slotsUsed = T.slotsUsed + ((T.heap.toList.drop T.heap.size).map (·.slots.size)).sum
      rw [List.drop_eq_nil_of_le (Nat.le_of_eq Array.length_toList)]
      rfl
    · show ((T.heap.toList.drop T.heap.size).map (·.slots.size)).sum ≤ 0
      rw [List.drop_eq_nil_of_le (Nat.le_of_eq Array.length_toList)]
      exact Nat.le_refl _
/-- 'throw new E()': new; dup; invokespecial; athrow -/
theorem vx_throw0 {cc : ByteArray} {pc : Nat} (hexec : p.tables.exec = Jvm.exec) (hb : c.code = cc) (hl : l.stackTraces = false) {own cls : String} {names : List String} {ik ic mc ms : Nat} {A : Nat → Prop}
    (hown : s.vm.findClass own = some m.cls) (hcls : Bundle.fit cls = true) (hnames : ∀ n ∈ names, Bundle.fit n = true)
    (hk : (Cond.classLink own ik cls).before args s = true) (hini : (Cond.initialized cls).before args s = true) (hat : ∀ w ∈ vx_at0 own ic cls names, w.before args s = true)
    (hgood : ∀ w ∈ Cond.classLink own ik cls :: Cond.initialized cls :: vx_at0 own ic cls names, vx_ot w = true)
    (hU : vx_Zq Bundle.tN "UNASSIGNED_STACK" Bundle.steD A s s.heap) (hN : vx_Zq Bundle.tN "SUPPRESSED_SENTINEL" Bundle.listD A s s.heap) (hS : va_S A s.heap H locs) (hsize : ls.size = c.maxLocals)
    (d0 : decode cc pc = .ok (.new ik, 3)) (d3 : decode cc (pc + 3) = .ok (.dup, 1)) (d4 : decode cc (pc + 4) = .ok (.invokespecial ic, 3)) (d7 : decode cc (pc + 7) = .ok (.athrow, 1))
    (hout : ∀ x ∈ c.exceptionTable.toList, covers x (pc + 7) = false)
    (hRframes : names.length + 3 < R.frames) (hRlocals : (rest.map fun v => v.category).sum + (13 * (names.length + 1) + 42) ≤ R.locals) (hRcells : cells + 1 ≤ R.cells) (hRslots : slots + 6 ≤ R.slots) (hlocks : meth.locks = false)
    (hx : ∀ t : State, s.vm.Alike t.vm → H.size ≤ t.heap.size → (∀ q : Nat, q < H.size → t.heap[q]? = H[q]?) → XC cls s t)
    (hf : ∀ z ∈ locs, free z.base) (hc : cells + 1 ≤ mc) (hs : slots + 6 ≤ ms) :
    W p l e R s m args below meth c H locs cells slots (vx_MQ below Qc XC args s mc ms free) (F0 m pc ls rest) := by
  intro T hT X
  have htr : e.platform.stackTraces = false := (show e.platform.stackTraces = l.stackTraces by rw [X.admits.platform]).trans hl
  have Y := vx_rebase X (R' := { frames := R.frames, locals := R.locals, cells := 1, slots := 6 }) (Nat.le_refl _) (Nat.le_refl _) hRcells hRslots
  obtain ⟨s', hA⟩ : ∃ z, z = (T.setVm s.vm).setFrames (.invoking m args :: below) := ⟨_, rfl⟩
  rw [← hA] at Y
  have hvm : s'.vm = s.vm := by rw [hA]; rfl
  have hhp : s'.heap = H := by rw [hA]; exact hT
  have hW0 : s.WarmedH s'.vm := by rw [hvm]; exact State.WarmedH.refl s
  have hat' : ∀ w ∈ vx_at0 own ic cls names, w.before args s' = true := fun w hw => vx_ot_at hW0 hvm.symm (hgood w (List.mem_cons_of_mem _ (List.mem_cons_of_mem _ hw))) (hat w hw)
  have hk' : (Cond.classLink own ik cls).before args s' = true := vx_ot_at hW0 hvm.symm (hgood _ List.mem_cons_self) hk
  have hini' : (Cond.initialized cls).before args s' = true := vx_ot_at hW0 hvm.symm (hgood _ (List.mem_cons_of_mem _ List.mem_cons_self)) hini
  have hU' : vx_Zq Bundle.tN "UNASSIGNED_STACK" Bundle.steD A s' s'.heap := by rw [hhp]; exact vx_Zq.moved hW0.alike (hU.kept hS.2.1)
  have hN' : vx_Zq Bundle.tN "SUPPRESSED_SENTINEL" Bundle.listD A s' s'.heap := by rw [hhp]; exact vx_Zq.moved hW0.alike (hN.kept hS.2.1)
  have h : ∀ w ∈ Bundle.ownAtoms0 own ic cls names, w.before args s' = true := vx_own hat' (vx_isRefq hU'.1) (vx_isRefq hN'.1) hU'.2.word hN'.2.word
  have hown' : s'.vm.findClass own = some m.cls := by rw [hvm]; exact hown
  have hins : (Cond.instantiable cls 6).before args s' = true := h _ (by simp [Bundle.ownAtoms0])
  obtain ⟨vm₁, cX, kX, hfX, hkX, -, -, X₁, st1⟩ := Y.newCold hexec (own := own) (C := cls) (index := ik) (n := 6) hown' hk' hins hini'
    (g := F0 m pc ls rest) rfl (by rw [hb]; exact d0) (Nat.le_refl _) (Nat.le_refl _)
  generalize hT1 : (T.setVm vm₁).pushCell { cls := cX, slots := kX.instanceTypes.map defaultValue, vm := .none } = T1 at X₁ st1
  have hcat : (Value.ref T.heap.size).category = 1 := rfl
  have hcellA : T1.heap[T.heap.size]? = some (freshCell cX kX) := by rw [← hT1]; exact State.heap_pushCell_size _ _
  have d3' : decode c.code (pc + 3) = .ok (.dup, 1) := by rw [hb]; exact d3
  obtain ⟨U, hsteps, hrun, hend, hW, hsame, ce, hce, hO⟩ := X₁.ctorThrow0 hexec htr (own := own) (cls := cls) (names := names) (ic := ic) hown' hcls hnames h (fun x hx => nomatch hx) hfX hkX hcellA (by rw [hhp, hT]; exact Nat.le_refl _)
    (g := { method := m, pc := pc + 4, locals := ls, stack := .ref T.heap.size :: .ref T.heap.size :: rest, locked := none }) rfl hsize rfl rfl (rest := rest) rfl
    (by rw [hb]; exact d4) (by rw [hb]; exact d7) hout hRframes (by simp only [List.map_cons, List.sum_cons, hcat]; omega) hlocks
  obtain ⟨f1, f2⟩ := vx_frame hsame
  rw [hhp] at f1 f2
  have hWs : s.WarmedH U.vm := State.WarmedH.trans hW0 hW
  have hcl : s.vm.findClass cls = some ce.cls := by
    have h9 := hO.cls
    rw [hvm] at h9
    exact h9
  have hall : s.sameButNew ({ U with vm := s.vm } : State) locs mc ms := by
    subst hA
    obtain ⟨e1, e2⟩ := hsame
    rw [State.setFrames_setFrames] at e1
    have h2 : (T.setVm s.vm).sameButNew ({ U with vm := s.vm } : State) [] (0 + 1) (0 + 6) := ⟨e1, e2⟩
    have h3 := X.same.trans h2
    rw [List.append_nil] at h3
    exact h3.mono hc hs
  refine ⟨U, ?_, .threw T.heap.size, hrun, hend, Or.inr ⟨T.heap.size, rfl, cls, ce, locs, hx U hWs.alike f1 (fun q hq => f2 q hq (fun z hz => nomatch hz)), hce, hO.vm, hcl, hWs, hall, hf⟩⟩
  refine st1 _ ?_
  show Steps p.tables e below (T1.setTop { method := m, pc := pc + 3, locals := ls, stack := .ref T.heap.size :: rest, locked := none }) _
  jvm_step X₁.here [X₁.here.top, hexec, d3', Value.category]
  exact hsteps
/-- 'throw new E("text")': new; dup; ldc; invokespecial; athrow -/
theorem vx_throwS {cc : ByteArray} {pc : Nat} (hexec : p.tables.exec = Jvm.exec) (hb : c.code = cc) (hl : l.stackTraces = false) {own cls text : String} {names : List String} {ik is ic mc ms sa : Nat} {A : Nat → Prop}
    (hown : s.vm.findClass own = some m.cls) (hcls : Bundle.fit cls = true) (hnames : ∀ n ∈ names, Bundle.fit n = true)
    (hk : (Cond.classLink own ik cls).before args s = true) (hini : (Cond.initialized cls).before args s = true) (hstr : vk_R own is text sa s) (hat : ∀ w ∈ vx_atS own ic cls names, w.before args s = true)
    (hgood : ∀ w ∈ Cond.classLink own ik cls :: Cond.initialized cls :: vx_atS own ic cls names, vx_ot w = true)
    (hU : vx_Zq Bundle.tN "UNASSIGNED_STACK" Bundle.steD A s s.heap) (hN : vx_Zq Bundle.tN "SUPPRESSED_SENTINEL" Bundle.listD A s s.heap) (hS : va_S A s.heap H locs) (hsize : ls.size = c.maxLocals)
    (d0 : decode cc pc = .ok (.new ik, 3)) (d3 : decode cc (pc + 3) = .ok (.dup, 1)) (d4 : decode cc (pc + 4) = .ok (.ldc is, 2)) (d6 : decode cc (pc + 6) = .ok (.invokespecial ic, 3)) (d9 : decode cc (pc + 9) = .ok (.athrow, 1))
    (hout : ∀ x ∈ c.exceptionTable.toList, covers x (pc + 9) = false)
    (hRframes : names.length + 3 < R.frames) (hRlocals : (rest.map fun v => v.category).sum + (13 * (names.length + 1) + 43) ≤ R.locals) (hRcells : cells + 1 ≤ R.cells) (hRslots : slots + 6 ≤ R.slots) (hlocks : meth.locks = false)
    (hx : ∀ t : State, s.vm.Alike t.vm → H.size ≤ t.heap.size → (∀ q : Nat, q < H.size → t.heap[q]? = H[q]?) → XC cls s t)
    (hf : ∀ z ∈ locs, free z.base) (hc : cells + 1 ≤ mc) (hs : slots + 6 ≤ ms) :
    W p l e R s m args below meth c H locs cells slots (vx_MQ below Qc XC args s mc ms free) (F0 m pc ls rest) := by
  intro T hT X
  have htr : e.platform.stackTraces = false := (show e.platform.stackTraces = l.stackTraces by rw [X.admits.platform]).trans hl
  have Y := vx_rebase X (R' := { frames := R.frames, locals := R.locals, cells := 1, slots := 6 }) (Nat.le_refl _) (Nat.le_refl _) hRcells hRslots
  obtain ⟨s', hA⟩ : ∃ z, z = (T.setVm s.vm).setFrames (.invoking m args :: below) := ⟨_, rfl⟩
  rw [← hA] at Y
  have hvm : s'.vm = s.vm := by rw [hA]; rfl
  have hhp : s'.heap = H := by rw [hA]; exact hT
  have hW0 : s.WarmedH s'.vm := by rw [hvm]; exact State.WarmedH.refl s
  have hat' : ∀ w ∈ vx_atS own ic cls names, w.before args s' = true := fun w hw => vx_ot_at hW0 hvm.symm (hgood w (List.mem_cons_of_mem _ (List.mem_cons_of_mem _ hw))) (hat w hw)
  have hk' : (Cond.classLink own ik cls).before args s' = true := vx_ot_at hW0 hvm.symm (hgood _ List.mem_cons_self) hk
  have hini' : (Cond.initialized cls).before args s' = true := vx_ot_at hW0 hvm.symm (hgood _ (List.mem_cons_of_mem _ List.mem_cons_self)) hini
  have hU' : vx_Zq Bundle.tN "UNASSIGNED_STACK" Bundle.steD A s' s'.heap := by rw [hhp]; exact vx_Zq.moved hW0.alike (hU.kept hS.2.1)
  have hN' : vx_Zq Bundle.tN "SUPPRESSED_SENTINEL" Bundle.listD A s' s'.heap := by rw [hhp]; exact vx_Zq.moved hW0.alike (hN.kept hS.2.1)
  have h : ∀ w ∈ Bundle.ownAtoms own ic cls names, w.before args s' = true := vx_own hat' (vx_isRefq hU'.1) (vx_isRefq hN'.1) hU'.2.word hN'.2.word
  have hown' : s'.vm.findClass own = some m.cls := by rw [hvm]; exact hown
  have hins : (Cond.instantiable cls 6).before args s' = true := h _ (by simp [Bundle.ownAtoms])
  obtain ⟨vm₁, cX, kX, hfX, hkX, -, -, X₁, st1⟩ := Y.newCold hexec (own := own) (C := cls) (index := ik) (n := 6) hown' hk' hins hini'
    (g := F0 m pc ls rest) rfl (by rw [hb]; exact d0) (Nat.le_refl _) (Nat.le_refl _)
  generalize hT1 : (T.setVm vm₁).pushCell { cls := cX, slots := kX.instanceTypes.map defaultValue, vm := .none } = T1 at X₁ st1
  have hcat : (Value.ref T.heap.size).category = 1 := rfl
  have hcellA : T1.heap[T.heap.size]? = some (freshCell cX kX) := by rw [← hT1]; exact State.heap_pushCell_size _ _
  have d3' : decode c.code (pc + 3) = .ok (.dup, 1) := by rw [hb]; exact d3
  have d4' : decode c.code (pc + 4) = .ok (.ldc is, 2) := by rw [hb]; exact d4
  have hstr' : vk_R own is text sa s' := vk_R.warm hW0 hstr
  obtain ⟨U, hsteps, hrun, hend, hW, hsame, ce, hce, hO⟩ := X₁.ctorThrowS hexec htr (own := own) (cls := cls) (names := names) (ic := ic) hown' hcls hnames h (fun x hx => nomatch hx) hfX hkX hcellA (by rw [hhp, hT]; exact Nat.le_refl _) (msg := .ref sa) rfl
    (g := { method := m, pc := pc + 6, locals := ls, stack := .ref sa :: .ref T.heap.size :: .ref T.heap.size :: rest, locked := none }) rfl hsize rfl rfl (rest := rest) rfl
    (by rw [hb]; exact d6) (by rw [hb]; exact d9) hout hRframes (by simp only [List.map_cons, List.sum_cons, hcat]; omega) hlocks
  obtain ⟨f1, f2⟩ := vx_frame hsame
  rw [hhp] at f1 f2
  have hWs : s.WarmedH U.vm := State.WarmedH.trans hW0 hW
  have hcl : s.vm.findClass cls = some ce.cls := by
    have h9 := hO.cls
    rw [hvm] at h9
    exact h9
  have hall : s.sameButNew ({ U with vm := s.vm } : State) locs mc ms := by
    subst hA
    obtain ⟨e1, e2⟩ := hsame
    rw [State.setFrames_setFrames] at e1
    have h2 : (T.setVm s.vm).sameButNew ({ U with vm := s.vm } : State) [] (0 + 1) (0 + 6) := ⟨e1, e2⟩
    have h3 := X.same.trans h2
    rw [List.append_nil] at h3
    exact h3.mono hc hs
  refine ⟨U, ?_, .threw T.heap.size, hrun, hend, Or.inr ⟨T.heap.size, rfl, cls, ce, locs, hx U hWs.alike f1 (fun q hq => f2 q hq (fun z hz => nomatch hz)), hce, hO.vm, hcl, hWs, hall, hf⟩⟩
  refine st1 _ ?_
  show Steps p.tables e below (T1.setTop { method := m, pc := pc + 3, locals := ls, stack := .ref T.heap.size :: rest, locked := none }) _
  jvm_step X₁.here [X₁.here.top, hexec, d3', Value.category]
  exact X₁.ldcString hexec (own := own) (text := text) (index := is) (a := sa) hown' hstr'.1 hstr'.2
    (g := { method := m, pc := pc + 4, locals := ls, stack := .ref T.heap.size :: .ref T.heap.size :: rest, locked := none }) rfl d4' _ hsteps
/-- 'throw new E("text")', the text by a wide index -/
theorem vx_throwSW {cc : ByteArray} {pc : Nat} (hexec : p.tables.exec = Jvm.exec) (hb : c.code = cc) (hl : l.stackTraces = false) {own cls text : String} {names : List String} {ik is ic mc ms sa : Nat} {A : Nat → Prop}
    (hown : s.vm.findClass own = some m.cls) (hcls : Bundle.fit cls = true) (hnames : ∀ n ∈ names, Bundle.fit n = true)
    (hk : (Cond.classLink own ik cls).before args s = true) (hini : (Cond.initialized cls).before args s = true) (hstr : vk_R own is text sa s) (hat : ∀ w ∈ vx_atS own ic cls names, w.before args s = true)
    (hgood : ∀ w ∈ Cond.classLink own ik cls :: Cond.initialized cls :: vx_atS own ic cls names, vx_ot w = true)
    (hU : vx_Zq Bundle.tN "UNASSIGNED_STACK" Bundle.steD A s s.heap) (hN : vx_Zq Bundle.tN "SUPPRESSED_SENTINEL" Bundle.listD A s s.heap) (hS : va_S A s.heap H locs) (hsize : ls.size = c.maxLocals)
    (d0 : decode cc pc = .ok (.new ik, 3)) (d3 : decode cc (pc + 3) = .ok (.dup, 1)) (d4 : decode cc (pc + 4) = .ok (.ldc_w is, 3)) (d7 : decode cc (pc + 7) = .ok (.invokespecial ic, 3)) (d10 : decode cc (pc + 10) = .ok (.athrow, 1))
    (hout : ∀ x ∈ c.exceptionTable.toList, covers x (pc + 10) = false)
    (hRframes : names.length + 3 < R.frames) (hRlocals : (rest.map fun v => v.category).sum + (13 * (names.length + 1) + 43) ≤ R.locals) (hRcells : cells + 1 ≤ R.cells) (hRslots : slots + 6 ≤ R.slots) (hlocks : meth.locks = false)
    (hx : ∀ t : State, s.vm.Alike t.vm → H.size ≤ t.heap.size → (∀ q : Nat, q < H.size → t.heap[q]? = H[q]?) → XC cls s t)
    (hf : ∀ z ∈ locs, free z.base) (hc : cells + 1 ≤ mc) (hs : slots + 6 ≤ ms) :
    W p l e R s m args below meth c H locs cells slots (vx_MQ below Qc XC args s mc ms free) (F0 m pc ls rest) := by
  intro T hT X
  have htr : e.platform.stackTraces = false := (show e.platform.stackTraces = l.stackTraces by rw [X.admits.platform]).trans hl
  have Y := vx_rebase X (R' := { frames := R.frames, locals := R.locals, cells := 1, slots := 6 }) (Nat.le_refl _) (Nat.le_refl _) hRcells hRslots
  obtain ⟨s', hA⟩ : ∃ z, z = (T.setVm s.vm).setFrames (.invoking m args :: below) := ⟨_, rfl⟩
  rw [← hA] at Y
  have hvm : s'.vm = s.vm := by rw [hA]; rfl
  have hhp : s'.heap = H := by rw [hA]; exact hT
  have hW0 : s.WarmedH s'.vm := by rw [hvm]; exact State.WarmedH.refl s
  have hat' : ∀ w ∈ vx_atS own ic cls names, w.before args s' = true := fun w hw => vx_ot_at hW0 hvm.symm (hgood w (List.mem_cons_of_mem _ (List.mem_cons_of_mem _ hw))) (hat w hw)
  have hk' : (Cond.classLink own ik cls).before args s' = true := vx_ot_at hW0 hvm.symm (hgood _ List.mem_cons_self) hk
  have hini' : (Cond.initialized cls).before args s' = true := vx_ot_at hW0 hvm.symm (hgood _ (List.mem_cons_of_mem _ List.mem_cons_self)) hini
  have hU' : vx_Zq Bundle.tN "UNASSIGNED_STACK" Bundle.steD A s' s'.heap := by rw [hhp]; exact vx_Zq.moved hW0.alike (hU.kept hS.2.1)
  have hN' : vx_Zq Bundle.tN "SUPPRESSED_SENTINEL" Bundle.listD A s' s'.heap := by rw [hhp]; exact vx_Zq.moved hW0.alike (hN.kept hS.2.1)
  have h : ∀ w ∈ Bundle.ownAtoms own ic cls names, w.before args s' = true := vx_own hat' (vx_isRefq hU'.1) (vx_isRefq hN'.1) hU'.2.word hN'.2.word
  have hown' : s'.vm.findClass own = some m.cls := by rw [hvm]; exact hown
  have hins : (Cond.instantiable cls 6).before args s' = true := h _ (by simp [Bundle.ownAtoms])
  obtain ⟨vm₁, cX, kX, hfX, hkX, -, -, X₁, st1⟩ := Y.newCold hexec (own := own) (C := cls) (index := ik) (n := 6) hown' hk' hins hini'
    (g := F0 m pc ls rest) rfl (by rw [hb]; exact d0) (Nat.le_refl _) (Nat.le_refl _)
  generalize hT1 : (T.setVm vm₁).pushCell { cls := cX, slots := kX.instanceTypes.map defaultValue, vm := .none } = T1 at X₁ st1
  have hcat : (Value.ref T.heap.size).category = 1 := rfl
  have hcellA : T1.heap[T.heap.size]? = some (freshCell cX kX) := by rw [← hT1]; exact State.heap_pushCell_size _ _
  have d3' : decode c.code (pc + 3) = .ok (.dup, 1) := by rw [hb]; exact d3
  have d4' : decode c.code (pc + 4) = .ok (.ldc_w is, 3) := by rw [hb]; exact d4
  have hstr' : vk_R own is text sa s' := vk_R.warm hW0 hstr
  obtain ⟨U, hsteps, hrun, hend, hW, hsame, ce, hce, hO⟩ := X₁.ctorThrowS hexec htr (own := own) (cls := cls) (names := names) (ic := ic) hown' hcls hnames h (fun x hx => nomatch hx) hfX hkX hcellA (by rw [hhp, hT]; exact Nat.le_refl _) (msg := .ref sa) rfl
    (g := { method := m, pc := pc + 7, locals := ls, stack := .ref sa :: .ref T.heap.size :: .ref T.heap.size :: rest, locked := none }) rfl hsize rfl rfl (rest := rest) rfl
    (by rw [hb]; exact d7) (by rw [hb]; exact d10) hout hRframes (by simp only [List.map_cons, List.sum_cons, hcat]; omega) hlocks
  obtain ⟨f1, f2⟩ := vx_frame hsame
  rw [hhp] at f1 f2
  have hWs : s.WarmedH U.vm := State.WarmedH.trans hW0 hW
  have hcl : s.vm.findClass cls = some ce.cls := by
    have h9 := hO.cls
    rw [hvm] at h9
    exact h9
  have hall : s.sameButNew ({ U with vm := s.vm } : State) locs mc ms := by
    subst hA
    obtain ⟨e1, e2⟩ := hsame
    rw [State.setFrames_setFrames] at e1
    have h2 : (T.setVm s.vm).sameButNew ({ U with vm := s.vm } : State) [] (0 + 1) (0 + 6) := ⟨e1, e2⟩
    have h3 := X.same.trans h2
    rw [List.append_nil] at h3
    exact h3.mono hc hs
  refine ⟨U, ?_, .threw T.heap.size, hrun, hend, Or.inr ⟨T.heap.size, rfl, cls, ce, locs, hx U hWs.alike f1 (fun q hq => f2 q hq (fun z hz => nomatch hz)), hce, hO.vm, hcl, hWs, hall, hf⟩⟩
  refine st1 _ ?_
  show Steps p.tables e below (T1.setTop { method := m, pc := pc + 3, locals := ls, stack := .ref T.heap.size :: rest, locked := none }) _
  jvm_step X₁.here [X₁.here.top, hexec, d3', Value.category]
  exact X₁.ldcStringW hexec (own := own) (text := text) (index := is) (a := sa) hown' hstr'.1 hstr'.2
    (g := { method := m, pc := pc + 4, locals := ls, stack := .ref T.heap.size :: .ref T.heap.size :: rest, locked := none }) rfl d4' _ hsteps
end Ends
section Bodies
variable {l : Launch}
theorem vx_ofW {y : MethodName} {ws ws' : List Cond} {rm : Room} {Pc : Array Value → State → Prop} {Qc : Array Value → State → Outcome → State → Prop} {XC : String → State → State → Prop} {mc ms : Nat} {free : Addr → Prop} {cc : ByteArray} {maxL : Nat} {ret : Option FieldType}
    (hy : plainName y.cls = true) (hw : ws = Cond.code y cc maxL ret :: ws')
    (body : ∀ p e s m args below meth c s₁, BodyLoose p l y (headSpec ws rm) cc maxL ret e s m args below meth c s₁ → c.maxLocals = maxL → (∀ x ∈ c.exceptionTable.toList, False) → Pc args s →
      W p l e (headSpec ws rm).room s m args below meth c s.heap [] 0 0 (vx_MQ below Qc XC args s mc ms free) (entryFrame m args maxL)) : vx_Met l y ws rm Pc Qc XC mc ms free := by
  refine MetFree.of_bodyS (code := cc) (maxLocals := maxL) (ret := ret) hy ?_ ?_
  · intro args s m h hn
    obtain ⟨meth, c, h1, h2, h3, h4, h5, h6, -, -⟩ := Cond.code_spec hn (atoms_spec (ws := ws) h _ (by rw [hw]; exact List.mem_cons_self))
    exact ⟨meth, c, h1, h2, h3, h4, h5, h6⟩
  · intro p e s m args below meth c s₁ B hml hP _
    have hh0 : s₁.heap = s.heap := by rw [B.state]; rfl
    have ht : ∀ x ∈ c.exceptionTable.toList, False := by
      obtain ⟨meth9, c9, h1, h2, -, -, -, -, h7, -⟩ := Cond.code_spec B.named (atoms_spec (ws := ws) B.pre _ (by rw [hw]; exact List.mem_cons_self))
      cases Option.some.inj (h1.symm.trans B.method)
      cases Option.some.inj (h2.symm.trans (Stand.of_body B).code)
      intro x hx
      rw [Array.isEmpty_iff.mp h7] at hx
      cases hx
    obtain ⟨t, a1, o, b1, b2, b3⟩ := body p e s m args below meth c s₁ B hml ht hP s₁ hh0 (Stand.of_body B)
    exact ⟨t, o, a1, b1, b2, b3⟩
/-- the table of a body with handlers -/
theorem vx_table {p : Program} {x y : MethodName} {S : Spec} {cc bytes : ByteArray} {maxL maxL' : Nat} {ret ret' : Option FieldType} {e : Env} {s s₁ : State} {m : MethodId} {args : Array Value} {below : List Frame} {meth : Method} {c : Code} {hh : List (Nat × Nat × Nat × Nat)}
    (B : BodyLoose p l y S cc maxL ret e s m args below meth c s₁) (h : (Cond.codeWith y bytes maxL' ret' hh).before args s = true) : c.exceptionTable.toList = tableOf hh := by
  obtain ⟨m9, meth9, c9, hn9, h1, h2, -, -, h6, -⟩ := Cond.codeWith_spec h
  cases Option.some.inj (hn9.symm.trans B.named)
  cases Option.some.inj (h1.symm.trans B.method)
  cases Option.some.inj (h2.symm.trans (Stand.of_body B).code)
  rw [← h6, table_eq]
end Bodies
end VXA
/-! ===== END ===== -/
/-! ===== BEGIN a static call of a method with an exception table ===== -/
section VXS
variable {p : Program} {l : Launch} {e : Env} {R : Room} {s : State} {m : MethodId} {args : Array Value} {below : List Frame} {meth : Method} {c : Code} {T : State} {H : Heap} {locs : List Loc} {cells slots : Nat}
abbrev vx_CSW (R : Room) (s : State) (args : Array Value) (own : String) (index : Nat) (y : MethodName) (bytes : ByteArray) (maxL : Nat) (ret : Option FieldType) (hh : List (Nat × Nat × Nat × Nat)) (ws : List Cond) (rm : Room) (mc ms n : Nat) : Prop :=
  (rm.cells = mc ∧ rm.slots = ms ∧ rm.frames + 1 ≤ R.frames ∧ 8 + (maxL + 11) + rm.locals ≤ R.locals ∧ (∀ w ∈ ws, ∀ (a' : Array Value) (U : State), s.WarmedH U.vm → w.before a' U = true) ∧ Cond.codeWith y bytes maxL ret hh ∈ ws) ∧
  (Cond.codeWith y bytes maxL ret hh).before args s = true ∧ (Cond.initialized y.cls).before args s = true ∧ (y.cls ≠ "java/lang/invoke/MethodHandle" ∧ y.cls ≠ "java/lang/invoke/VarHandle") ∧
  (∀ sig, parseMethodDescriptor y.desc = some sig → n = sig.parameters.length) ∧ (Cond.methodLink own index y).before args s = true ∧ (Cond.static y).before args s = true
theorem vx_cwSW {own : String} {index maxL mc ms : Nat} {y : MethodName} {bytes : ByteArray} {ret : Option FieldType} {hh : List (Nat × Nat × Nat × Nat)} {Ts ws ws' : List Cond} {rm : Room} (n : Nat) (ht : ∀ w ∈ Ts, w.before args s = true) (hT : GoodIn Ts (va_wsS own index y ws)) (hw : ws = Cond.codeWith y bytes maxL ret hh :: ws') (hrc : rm.cells = mc) (hrs : rm.slots = ms)
    (hd : y.cls ≠ "java/lang/invoke/MethodHandle" ∧ y.cls ≠ "java/lang/invoke/VarHandle" ∧ (parseMethodDescriptor y.desc).map (fun d => d.parameters.length) = some n) (hR : rm.frames + 1 ≤ R.frames ∧ 8 + (maxL + 11) + rm.locals ≤ R.locals) :
    vx_CSW R s args own index y bytes maxL ret hh ws rm mc ms n := by
  have ok : ∀ w ∈ va_wsS own index y ws, w.before args s = true := fun w h => ht w (hT w h).1
  have hG : GoodIn Ts ws := fun w h => hT w (by unfold va_wsS; exact List.mem_append_right _ h)
  have hc : Cond.codeWith y bytes maxL ret hh ∈ ws := by rw [hw]; exact List.mem_cons_self
  refine ⟨⟨hrc, hrs, hR.1, hR.2, pay_in ht hG, hc⟩, ht _ (hG _ hc).1, ok _ (by simp [va_wsS]), ⟨hd.1, hd.2.1⟩, fun sig h => ?_, ok _ (by simp [va_wsS]), ok _ (by simp [va_wsS])⟩
  have h2 := hd.2.2
  rw [h] at h2
  exact (Option.some.inj h2).symm
theorem vx_callSW (X : Stand p l e R s m args below meth c T locs cells slots) (hexec : p.tables.exec = Jvm.exec) {own : String} {index : Nat} {y : MethodName} {bytes : ByteArray} {maxL : Nat} {ret : Option FieldType} {hh : List (Nat × Nat × Nat × Nat)}
    (hown : s.vm.findClass own = some m.cls) (hlink : (Cond.methodLink own index y).before args s = true) (hstat : (Cond.static y).before args s = true) (hinit : (Cond.initialized y.cls).before args s = true)
    (hcode : (Cond.codeWith y bytes maxL ret hh).before args s = true) (hy : y.cls ≠ "java/lang/invoke/MethodHandle" ∧ y.cls ≠ "java/lang/invoke/VarHandle")
    {W9 : Nat} {Pre : Pt → Array Value → Prop} {Post : Pt → Array Value → Option Value → Pt → Prop} (hK : Back l R p e below s args y 3 W9 Pre Post)
    {g : JFrame} (hg : g.method = m) (hsize : g.locals.size = c.maxLocals) {argsL rest : List Value} (hlen : ∀ sig, parseMethodDescriptor y.desc = some sig → argsL.length = sig.parameters.length)
    (hstack : g.stack = argsL.reverse ++ rest) (hW : 2 * g.monitorRoom + (rest.map fun v => v.category).sum ≤ W9) (hdg : decode c.code g.pc = .ok (.invokestatic index, 3))
    (hpre : ∀ vm₁, s.WarmedH vm₁ → Pre ⟨T.setVm vm₁, locs, cells, slots⟩ argsL.toArray) :
    ∃ (v : Option Value) (vm₁ : Vm) (B : Pt), s.WarmedH vm₁ ∧ Stand p l e R s m args below meth c B.U B.locs B.cells B.slots ∧ Post ⟨T.setVm vm₁, locs, cells, slots⟩ argsL.toArray v B ∧
      ∀ target, Steps p.tables e below (B.U.setTop { g with pc := g.pc + 3, stack := v.toList ++ rest }) target → Steps p.tables e below (T.setTop g) target := by
  obtain ⟨mk, methM, cM, hnamed, hmethM, -, -, -, -, -, -, hsigM⟩ := Cond.codeWith_spec hcode
  have hstatic : methM.isStatic = true := Cond.static_spec hnamed hmethM hstat
  obtain ⟨kP, hkP, -⟩ := className_of_methodNamed hnamed
  have hinitP : kP.init = .initialized := Cond.initialized_spec (findClass_of_methodNamed hnamed) hkP hinit
  obtain ⟨vm₁, X₁, hstep₁⟩ := X.invokestatic hexec hown hlink hnamed hmethM hstatic hkP hinitP hy (g := g) hg (argsL := argsL) (rest := rest) (hlen _ hsigM) hstack hdg
  obtain ⟨v, B, X', hpost, hsteps⟩ := hK m meth c ⟨T.setVm vm₁, locs, cells, slots⟩ { g with stack := rest } (.invokestatic index) mk argsL.toArray X₁ hg hsize hdg hW (X₁.named hnamed) (hpre vm₁ X₁.warmed)
  exact ⟨v, vm₁, B, X₁.warmed, X', hpost, fun target h => hstep₁ _ fun acts => by rw [doInvoke_state]; exact hsteps.trans h⟩
theorem vx_runSW {y : MethodName} {bytes cc : ByteArray} {maxL nL mc ms n index : Nat} {ret : Option FieldType} {hh : List (Nat × Nat × Nat × Nat)} {ws : List Cond} {rm : Room} {Pc : Array Value → State → Prop} {Qc : Array Value → State → Outcome → State → Prop} {free : Addr → Prop} {Ts : List Cond} {own : String} {As rest : List Value} {g : JFrame}
    (S : CallFix p m c cc nL s args Ts own) (hM : Met l y ws rm Pc Qc mc ms free) (cw : vx_CSW R s args own index y bytes maxL ret hh ws rm mc ms n) (hp : PreS s H Pc As)
    (hg : g.method = m) (hn : As.length = n) (hsize : g.locals.size = nL) (hstack : g.stack = As.reverse ++ rest) (hW : 2 * g.monitorRoom + (rest.map fun v => v.category).sum ≤ 8) (hdg : decode cc g.pc = .ok (.invokestatic index, 3)) (hf : cells + mc ≤ R.cells ∧ slots + ms ≤ R.slots) :
    va_Run p l e R s m args below meth c H locs cells slots mc ms g rest (Qc As.toArray) (free) := by
  obtain ⟨⟨hrc, hrs, hfr, hlo, hws, hcw⟩, hcode, hini, hy, hlen, hl, hstt⟩ := cw
  have hK : Back l R p e below s args y 3 8 (PreOf R mc ms Pc) (PostOf Qc mc ms free) := va_backW (hh := hh) (bytes := bytes) (maxL := maxL) (ret := ret) hM hp.1 hrc hrs hfr hlo hws hcw (fun a' U hW => word_at hW (Or.inl (by first | rfl | simp [Cond.onTables, Cond.keeps, Cond.steady])) hini)
  obtain ⟨hx, hb, hml, ho, -⟩ := S
  intro T hT X
  obtain ⟨v, vm₁, ⟨U', l2, c2, s2⟩, hW₁, X', ⟨g', mk, t, L, e1, e2, hq, h1, hL, h2, h3⟩, st⟩ := vx_callSW X hx (hh := hh) (bytes := bytes) (maxL := maxL) (ret := ret) ho hl hstt hini hcode hy hK hg (hsize.trans hml.symm) (argsL := As) (rest := rest) (fun sig h => hn.trans (hlen sig h)) hstack hW (by rw [hb]; exact hdg)
    (fun vm₁ hW₁ => ⟨hf.1, hf.2, hp.2 (T.setVm vm₁) hT hW₁⟩)
  dsimp only [Pt.U, Pt.locs, Pt.cells, Pt.slots] at X' e1 e2 h1 h2 h3 st
  subst h1; subst h2; subst h3
  exact ⟨v, (T.setVm vm₁).calling g' mk As.toArray, t, U', L, hT, X', hL, e1, e2, hq, st⟩
/-- not caught here, past rows that name other classes: it goes on to the caller -/
theorem vx_outP {p : Program} {l : Launch} {e : Env} {R : Room} {s : State} {m : MethodId} {args : Array Value} {below : List Frame} {meth : Method} {c : Code} {H : Heap} {locs : List Loc} {cells slots : Nat} {free : Addr → Prop} {ls : Array Slot} {rest : List Value} {Qc : Array Value → State → Outcome → State → Prop} {XC : String → State → State → Prop}
    {pc : Nat} {own E : String} {ce : Cell} {q : Addr} {mc ms : Nat} (hown : s.vm.findClass own = some m.cls) (hlocks : meth.locks = false)
    (hpass : ∀ z ∈ c.exceptionTable.toList, covers z pc = false ∨ (z.catchType ≠ 0 ∧ ∃ nm : String, (Cond.classLink own z.catchType nm).before args s = true ∧ va_Nc E nm s)) (hcell : H[q]? = some ce) (hv : ce.vm = .none) (hcl : s.vm.findClass E = some ce.cls)
    (hx : ∀ t : State, t.heap = H → s.vm.Alike t.vm → XC E s t) (hf : ∀ z ∈ locs, free z.base) (hc : cells ≤ mc) (hs : slots ≤ ms) :
    vx_W p l e R s m args below meth c H locs cells slots (vx_MQ below Qc XC args s mc ms free) (F0 m pc ls rest) q := by
  intro T hT X
  have hpl : e.platform.magicAccessors = ({} : Platform).magicAccessors := by rw [X.admits.platform]
  obtain ⟨vm', hW', X', st⟩ := X.outThrough hlocks q (g := F0 m pc ls rest) rfl rfl rfl (cell := ce) (by rw [hT]; exact hcell) (by rw [hv]; rfl)
    (by obtain ⟨k9, h9, -⟩ := Vm.findClass_spec hcl; exact ⟨k9, h9⟩) (fun z hz => by
      rcases hpass z hz with h | ⟨hz0, nm, hl1, hn1⟩
      · exact Or.inl h
      · obtain ⟨c6, hc6, hcl6⟩ := Cond.classLink_spec hown hl1 e.platform hpl
        obtain ⟨a8, b8, h1, h2, h3⟩ := hn1
        cases Option.some.inj (h1.symm.trans hcl)
        cases Option.some.inj (h2.symm.trans hc6)
        exact Or.inr ⟨hz0, _, hcl6, h3⟩)
  obtain ⟨g₀, hfr⟩ := X'.frames_eq
  have hcell9 : ((T.setVm vm').setFrames (.throwing q :: below)).heap[q]? = some ce := by
    show T.heap[q]? = some ce
    rw [hT]; exact hcell
  have hend : Ended ((T.setVm vm').setFrames (.throwing q :: below)) below (.threw q) := State.frames_setFrames _ (State.cur_lt_of_frames hfr)
  refine ⟨(T.setVm vm').setFrames (.throwing q :: below), ?_, .threw q, X'.here.running, hend, Or.inr ⟨q, rfl, E, ce, locs, hx _ hT (X'.ends _).1.alike, hcell9, hv, hcl, (X'.ends _).1, (X'.ends _).2.mono hc hs, hf⟩⟩
  rw [X.pushThrowing_eq]
  exact st
/-- a thing of a world lies in the heap -/
theorem vx_lt {D : va_G} {cl : List vw_C} {ws : va_W} {H1 : Heap} (h : va_P D cl ws H1) {k : Nat} {q : Nat × va_E} (hk : ws[k]? = some q) : q.1 < H1.size := (h k q hk).lt
end VXS
/-! ===== END ===== -/
/-! ===== BEGIN methods with a table of their own: called by a name, returning or throwing ===== -/
section VXH
/-! vx_backW, vx_callVX, vx_callSX, vx_callVW, vx_runVW, vx_runVX, vx_runSX, vx_ofWH follow the same proofs as their sisters above (Free/Laws.lean, Shelf42/LK1.lean); vx_outP calls Shelf42/NT130.lean (outThrough). -/
section
variable {l : Launch} {R : Room} {p : Program} {e : Env} {below : List Frame} {s : State} {sargs : Array Value} {y : MethodName} {len W9 : Nat}
theorem vx_backW {ws : List Cond} {rm : Room} {Pc : Array Value → State → Prop} {Qc : Array Value → State → Outcome → State → Prop} {XC : String → State → State → Prop} {mc ms : Nat} {free : Addr → Prop} {bytes : ByteArray} {maxL : Nat} {ret : Option FieldType} {hh : List (Nat × Nat × Nat × Nat)}
    (hM : vx_Met l y ws rm Pc Qc XC mc ms free) (hblind : FrameBlind Pc) (hrc : rm.cells = mc) (hrs : rm.slots = ms)
    (hframes : rm.frames + 1 ≤ R.frames) (hlocals : W9 + (maxL + 11) + rm.locals ≤ R.locals)
    (hws : ∀ w ∈ ws, ∀ a' U, s.WarmedH U.vm → w.before a' U = true) (hcode : Cond.codeWith y bytes maxL ret hh ∈ ws) (hinit : ∀ a' U, s.WarmedH U.vm → (Cond.initialized y.cls).before a' U = true) :
    vx_Back l R p e below s sargs y len W9 (PreOf R mc ms Pc) (PostOf Qc mc ms free) (vx_Post XC mc ms free) := by
  intro m meth c A g ig mk a X hg hsize hdg hW hn hp
  have h1 : (headSpec ws rm).pre.before a A.U = true := atoms_intro fun w hw => hws w hw _ _ X.warmed
  have h2 : (Cond.codeWith y bytes maxL ret hh).before a A.U = true := hws _ hcode _ _ X.warmed
  have h3 : (Cond.initialized y.cls).before a A.U = true := hinit _ _ X.warmed
  have h4 : A.cells + (headSpec ws rm).room.cells ≤ R.cells := by rw [show (headSpec ws rm).room.cells = mc from hrc]; exact hp.1
  have h5 : A.slots + (headSpec ws rm).room.slots ≤ R.slots := by rw [show (headSpec ws rm).room.slots = ms from hrs]; exact hp.2.1
  have hPc : Pc a (A.U.calling g mk a) := hblind _ _ _ _ hp.2.2
  obtain ⟨U, Ls, c0, s0⟩ := A
  dsimp only [Pt.U, Pt.locs, Pt.cells, Pt.slots] at h1 h2 h3 h4 h5 X hn hPc ⊢
  obtain ⟨m9, methY, cY, hn9, hmY, hcY, -, hlY, -⟩ := Cond.codeWith_spec h2
  cases Option.some.inj (hn9.symm.trans hn)
  obtain ⟨kY, hkY, -⟩ := className_of_methodNamed hn
  have hinitY : kY.init = .initialized := Cond.initialized_spec (findClass_of_methodNamed hn) hkY h3
  have h : At U g.method c below := by rw [hg]; exact X.here
  have hlocals9 : W9 + (maxL + 11) + (headSpec ws rm).room.locals ≤ R.locals := hlocals
  have happ : (headSpec ws rm).appliesLoose y e.platform (U.calling g mk a) = true :=
    Spec.appliesLoose_calling (g := g) h hdg hn hkY hinitY
      (X.room_calling (g := g) (R' := (headSpec ws rm).room) hsize hmY hcY hframes (by rw [hlY]; omega) h4 h5) h1
  obtain ⟨mid, hmid⟩ := h.above
  have hfr : (U.setTop g).frames = (.java g :: mid) ++ below := by rw [State.frames_setTop' g h.top, hmid]; rfl
  obtain ⟨o, s₂, hsteps, -, hend, hq⟩ := Steps.callFree hM p X.admits X.cas X.clock (acts := []) hfr happ hPc trivial
  have hq' : vx_Q Qc XC mc ms free a (U.calling g mk a) o s₂ := hq
  rw [State.frames_setTop' g h.top] at hend
  obtain ⟨g₀, hg0⟩ := Option.isSome_iff_exists.mp h.top
  obtain ⟨r, hr⟩ := State.topJava?_eq_some.mp hg0
  have hr' : (({ U with heap := s₂.heap, slotsUsed := s₂.slotsUsed } : State).setVm s₂.vm).frames = .java g₀ :: r := hr
  rcases hq' with ⟨hqc, L, hfe, hL⟩ | ⟨q, rfl, E, ce, L, hx, hce, hcv, hcl, hW₂, hsm, hL⟩
  · obtain ⟨⟨v, rfl⟩, hW₂, e2, q2, q3, q4, q5, q6⟩ := id hfe
    have e3 : s₂ = ({ (U.calling g mk a).setFrames s₂.frames with heap := s₂.heap, slotsUsed := s₂.slotsUsed } : State).setVm s₂.vm := by
      have : s₂ = ({ s₂ with vm := (U.calling g mk a).vm } : State).setVm s₂.vm := rfl
      rw [e2] at this
      exact this
    obtain ⟨c₂, i₂, len₂, hc₂, hd₂, hf₂⟩ := hend
    have hW' : U.WarmedH s₂.vm := hW₂
    have hcc : c₂ = c := by
      have h1 : s₂.code? g.method = U.code? g.method := by
        rw [State.code?_eq, State.code?_eq, hW'.alike.method?]
      exact Option.some.inj (hc₂.symm.trans (h1.trans h.code))
    subst hcc
    have hlen : len₂ = len := by rw [hdg] at hd₂; cases hd₂; rfl
    subst hlen
    have hs₂ : s₂ = (({ U with heap := s₂.heap, slotsUsed := s₂.slotsUsed } : State).setVm s₂.vm).setTop { g with pc := g.pc + len₂, stack := v.toList ++ g.stack } := by
      refine e3.trans ?_
      rw [hf₂, State.calling_eq h.top, State.setFrames_setFrames, State.setTop_of_frames _ hr', hr]
      rfl
    have hsame : U.sameButNew ({ U with heap := s₂.heap, slotsUsed := s₂.slotsUsed } : State) L mc ms := by
      refine ⟨?_, q2, q3, q4, q5, q6⟩
      obtain ⟨t, ht, -⟩ := State.frames_cons hr
      show ({ U with heap := s₂.heap, slotsUsed := s₂.slotsUsed } : State) = { U.setFrames U.frames with heap := s₂.heap, slotsUsed := s₂.slotsUsed }
      rw [State.setFrames_self ht]
    subst hg
    refine Or.inl ⟨v, ⟨(({ U with heap := s₂.heap, slotsUsed := s₂.slotsUsed } : State).setVm s₂.vm), Ls ++ L, c0 + mc, s0 + ms⟩,
      ⟨X.admits, X.cas, X.clock, X.frames, X.room, X.hears, X.method, X.code, (X.here.setHeapUsed s₂.heap s₂.slotsUsed).setVm hW'.alike, X.tail, State.WarmedH.trans X.warmed hW', X.limits, X.bytes, X.same.trans (hsame.setVm s.vm)⟩,
      ⟨g, mk, s₂, L, rfl, rfl, hqc, rfl, hL, rfl, rfl⟩, ?_⟩
    show Steps p.tables e below _ ((({ U with heap := s₂.heap, slotsUsed := s₂.slotsUsed } : State).setVm s₂.vm).setTop { g with pc := g.pc + len₂, stack := v.toList ++ g.stack })
    rw [← hs₂]
    exact hsteps
  · obtain ⟨e2, q2, q3, q4, q5, q6⟩ := id hsm
    have e3 : s₂ = ({ (U.calling g mk a).setFrames s₂.frames with heap := s₂.heap, slotsUsed := s₂.slotsUsed } : State).setVm s₂.vm := by
      have : s₂ = ({ s₂ with vm := (U.calling g mk a).vm } : State).setVm s₂.vm := rfl
      rw [e2] at this
      exact this
    have hf₂ : s₂.frames = .throwing q :: .java g :: U.frames.tail := hend
    have hW' : U.WarmedH s₂.vm := hW₂
    have hs₂ : s₂ = ((({ U with heap := s₂.heap, slotsUsed := s₂.slotsUsed } : State).setVm s₂.vm).setTop g).pushFrame (.throwing q) := by
      refine e3.trans ?_
      rw [hf₂, State.calling_eq h.top, State.setFrames_setFrames, State.pushFrame, State.frames_setTop _ hr', State.setTop_of_frames _ hr', State.setFrames_setFrames, hr]
      rfl
    have hsame : U.sameButNew ({ U with heap := s₂.heap, slotsUsed := s₂.slotsUsed } : State) L mc ms := by
      refine ⟨?_, q2, q3, q4, q5, q6⟩
      obtain ⟨t, ht, -⟩ := State.frames_cons hr
      show ({ U with heap := s₂.heap, slotsUsed := s₂.slotsUsed } : State) = { U.setFrames U.frames with heap := s₂.heap, slotsUsed := s₂.slotsUsed }
      rw [State.setFrames_self ht]
    subst hg
    refine Or.inr ⟨q, ⟨(({ U with heap := s₂.heap, slotsUsed := s₂.slotsUsed } : State).setVm s₂.vm), Ls ++ L, c0 + mc, s0 + ms⟩,
      ⟨X.admits, X.cas, X.clock, X.frames, X.room, X.hears, X.method, X.code, (X.here.setHeapUsed s₂.heap s₂.slotsUsed).setVm hW'.alike, X.tail, State.WarmedH.trans X.warmed hW', X.limits, X.bytes, X.same.trans (hsame.setVm s.vm)⟩,
      ⟨g, mk, s₂, L, E, ce, rfl, rfl, hx, hce, hcv, hcl, rfl, hL, rfl, rfl⟩, ?_⟩
    show Steps p.tables e below _ (((({ U with heap := s₂.heap, slotsUsed := s₂.slotsUsed } : State).setVm s₂.vm).setTop g).pushFrame (.throwing q))
    rw [← hs₂]
    exact hsteps
end
variable {p : Program} {l : Launch} {e : Env} {R : Room} {s : State} {m : MethodId} {args : Array Value} {below : List Frame} {meth : Method} {c : Code} {T : State} {H : Heap} {locs : List Loc} {cells slots : Nat}
theorem vx_callVX (X : Stand p l e R s m args below meth c T locs cells slots) (hexec : p.tables.exec = Jvm.exec) {own C : String} {index : Nat} {y : MethodName} {bytes : ByteArray} {maxL : Nat} {ret : Option FieldType} {hh : List (Nat × Nat × Nat × Nat)}
    (hown : s.vm.findClass own = some m.cls) (hlink : (Cond.methodLink own index y).before args s = true) (hinst : (Cond.instanceMethod y).before args s = true) (hsel : (Cond.selects C y y).before args s = true)
    (hcode : (Cond.codeWith y bytes maxL ret hh).before args s = true) (hy : y.cls ≠ "java/lang/invoke/MethodHandle" ∧ y.cls ≠ "java/lang/invoke/VarHandle")
    {W9 : Nat} {Pre : Pt → Array Value → Prop} {Post : Pt → Array Value → Option Value → Pt → Prop} {PostX : Pt → Array Value → Addr → Pt → Prop} (hK : vx_Back l R p e below s args y 3 W9 Pre Post PostX)
    {b : Addr} {cellB : Cell} (hcell : T.heap[b]? = some cellB) (hobj : cellB.vm.isStatics = false) (hcls : s.vm.findClass C = some cellB.cls)
    {g : JFrame} (hg : g.method = m) (hsize : g.locals.size = c.maxLocals) {argsL rest : List Value} (hlen : ∀ sig, parseMethodDescriptor y.desc = some sig → argsL.length = sig.parameters.length)
    (hstack : g.stack = argsL.reverse ++ .ref b :: rest) (hW : 2 * g.monitorRoom + (rest.map fun v => v.category).sum ≤ W9) (hdg : decode c.code g.pc = .ok (.invokevirtual index, 3))
    (hpre : ∀ vm₁, s.WarmedH vm₁ → Pre ⟨T.setVm vm₁, locs, cells, slots⟩ (Value.ref b :: argsL).toArray) :
    (∃ (v : Option Value) (vm₁ : Vm) (B : Pt), s.WarmedH vm₁ ∧ Stand p l e R s m args below meth c B.U B.locs B.cells B.slots ∧ Post ⟨T.setVm vm₁, locs, cells, slots⟩ (Value.ref b :: argsL).toArray v B ∧
      ∀ target, Steps p.tables e below (B.U.setTop { g with pc := g.pc + 3, stack := v.toList ++ rest }) target → Steps p.tables e below (T.setTop g) target) ∨
    (∃ (q : Addr) (vm₁ : Vm) (B : Pt), s.WarmedH vm₁ ∧ Stand p l e R s m args below meth c B.U B.locs B.cells B.slots ∧ PostX ⟨T.setVm vm₁, locs, cells, slots⟩ (Value.ref b :: argsL).toArray q B ∧
      Steps p.tables e below (T.setTop g) ((B.U.setTop { g with stack := rest }).pushFrame (.throwing q))) := by
  obtain ⟨mk, methM, hnamed, hmethM, hstM, habM⟩ := Cond.instanceMethod_spec hinst
  obtain ⟨m8, methM', cM, hn8, hmethM', -, -, -, -, -, -, hsigM⟩ := Cond.codeWith_spec hcode
  cases Option.some.inj (hn8.symm.trans hnamed)
  cases hmethM.symm.trans hmethM'
  obtain ⟨c2, r2, m2, q1, q2, q3, q4, kP, hkP, hkPi⟩ := Cond.selects_spec hsel
  cases hcls.symm.trans q1
  cases (State.methodFound?_of_named hnamed hy).symm.trans q2
  cases hnamed.symm.trans q3
  have hselP : selectMethod e.platform s.vm cellB.cls mk = .method mk := by rw [Launch.admits_selectMethod X.admits]; exact q4
  obtain ⟨vm₁, X₁, hstep₁⟩ := X.invokevirtual hexec hown hlink hnamed hmethM hstM hkP hkPi hy (a := b) (cell := cellB) hcell
    (fun z h => by rw [h] at hobj; cases hobj) hselP hmethM habM hkP hkPi (g := g) hg (argsL := argsL) (rest := rest) (hlen _ hsigM) hstack hdg
  rcases hK m meth c ⟨T.setVm vm₁, locs, cells, slots⟩ { g with stack := rest } (.invokevirtual index) mk (Value.ref b :: argsL).toArray X₁ hg hsize hdg hW (X₁.named hnamed) (hpre vm₁ X₁.warmed) with ⟨v, B, X', hpost, hsteps⟩ | ⟨q, B, X', hpost, hsteps⟩
  · exact Or.inl ⟨v, vm₁, B, X₁.warmed, X', hpost, fun target h => hstep₁ _ fun acts => by rw [doInvoke_state]; exact hsteps.trans h⟩
  · exact Or.inr ⟨q, vm₁, B, X₁.warmed, X', hpost, hstep₁ _ fun acts => by rw [doInvoke_state]; exact hsteps⟩
theorem vx_callSX (X : Stand p l e R s m args below meth c T locs cells slots) (hexec : p.tables.exec = Jvm.exec) {own : String} {index : Nat} {y : MethodName} {bytes : ByteArray} {maxL : Nat} {ret : Option FieldType} {hh : List (Nat × Nat × Nat × Nat)}
    (hown : s.vm.findClass own = some m.cls) (hlink : (Cond.methodLink own index y).before args s = true) (hstat : (Cond.static y).before args s = true) (hinit : (Cond.initialized y.cls).before args s = true)
    (hcode : (Cond.codeWith y bytes maxL ret hh).before args s = true) (hy : y.cls ≠ "java/lang/invoke/MethodHandle" ∧ y.cls ≠ "java/lang/invoke/VarHandle")
    {W9 : Nat} {Pre : Pt → Array Value → Prop} {Post : Pt → Array Value → Option Value → Pt → Prop} {PostX : Pt → Array Value → Addr → Pt → Prop} (hK : vx_Back l R p e below s args y 3 W9 Pre Post PostX)
    {g : JFrame} (hg : g.method = m) (hsize : g.locals.size = c.maxLocals) {argsL rest : List Value} (hlen : ∀ sig, parseMethodDescriptor y.desc = some sig → argsL.length = sig.parameters.length)
    (hstack : g.stack = argsL.reverse ++ rest) (hW : 2 * g.monitorRoom + (rest.map fun v => v.category).sum ≤ W9) (hdg : decode c.code g.pc = .ok (.invokestatic index, 3))
    (hpre : ∀ vm₁, s.WarmedH vm₁ → Pre ⟨T.setVm vm₁, locs, cells, slots⟩ argsL.toArray) :
    (∃ (v : Option Value) (vm₁ : Vm) (B : Pt), s.WarmedH vm₁ ∧ Stand p l e R s m args below meth c B.U B.locs B.cells B.slots ∧ Post ⟨T.setVm vm₁, locs, cells, slots⟩ argsL.toArray v B ∧
      ∀ target, Steps p.tables e below (B.U.setTop { g with pc := g.pc + 3, stack := v.toList ++ rest }) target → Steps p.tables e below (T.setTop g) target) ∨
    (∃ (q : Addr) (vm₁ : Vm) (B : Pt), s.WarmedH vm₁ ∧ Stand p l e R s m args below meth c B.U B.locs B.cells B.slots ∧ PostX ⟨T.setVm vm₁, locs, cells, slots⟩ argsL.toArray q B ∧
      Steps p.tables e below (T.setTop g) ((B.U.setTop { g with stack := rest }).pushFrame (.throwing q))) := by
  obtain ⟨mk, methM, cM, hnamed, hmethM, -, -, -, -, -, -, hsigM⟩ := Cond.codeWith_spec hcode
  have hstatic : methM.isStatic = true := Cond.static_spec hnamed hmethM hstat
  obtain ⟨kP, hkP, -⟩ := className_of_methodNamed hnamed
  have hinitP : kP.init = .initialized := Cond.initialized_spec (findClass_of_methodNamed hnamed) hkP hinit
  obtain ⟨vm₁, X₁, hstep₁⟩ := X.invokestatic hexec hown hlink hnamed hmethM hstatic hkP hinitP hy (g := g) hg (argsL := argsL) (rest := rest) (hlen _ hsigM) hstack hdg
  rcases hK m meth c ⟨T.setVm vm₁, locs, cells, slots⟩ { g with stack := rest } (.invokestatic index) mk argsL.toArray X₁ hg hsize hdg hW (X₁.named hnamed) (hpre vm₁ X₁.warmed) with ⟨v, B, X', hpost, hsteps⟩ | ⟨q, B, X', hpost, hsteps⟩
  · exact Or.inl ⟨v, vm₁, B, X₁.warmed, X', hpost, fun target h => hstep₁ _ fun acts => by rw [doInvoke_state]; exact hsteps.trans h⟩
  · exact Or.inr ⟨q, vm₁, B, X₁.warmed, X', hpost, hstep₁ _ fun acts => by rw [doInvoke_state]; exact hsteps⟩
theorem vx_callVW (X : Stand p l e R s m args below meth c T locs cells slots) (hexec : p.tables.exec = Jvm.exec) {own C : String} {index : Nat} {y : MethodName} {bytes : ByteArray} {maxL : Nat} {ret : Option FieldType} {hh : List (Nat × Nat × Nat × Nat)}
    (hown : s.vm.findClass own = some m.cls) (hlink : (Cond.methodLink own index y).before args s = true) (hinst : (Cond.instanceMethod y).before args s = true) (hsel : (Cond.selects C y y).before args s = true)
    (hcode : (Cond.codeWith y bytes maxL ret hh).before args s = true) (hy : y.cls ≠ "java/lang/invoke/MethodHandle" ∧ y.cls ≠ "java/lang/invoke/VarHandle")
    {W9 : Nat} {Pre : Pt → Array Value → Prop} {Post : Pt → Array Value → Option Value → Pt → Prop} (hK : Back l R p e below s args y 3 W9 Pre Post)
    {b : Addr} {cellB : Cell} (hcell : T.heap[b]? = some cellB) (hobj : cellB.vm.isStatics = false) (hcls : s.vm.findClass C = some cellB.cls)
    {g : JFrame} (hg : g.method = m) (hsize : g.locals.size = c.maxLocals) {argsL rest : List Value} (hlen : ∀ sig, parseMethodDescriptor y.desc = some sig → argsL.length = sig.parameters.length)
    (hstack : g.stack = argsL.reverse ++ .ref b :: rest) (hW : 2 * g.monitorRoom + (rest.map fun v => v.category).sum ≤ W9) (hdg : decode c.code g.pc = .ok (.invokevirtual index, 3))
    (hpre : ∀ vm₁, s.WarmedH vm₁ → Pre ⟨T.setVm vm₁, locs, cells, slots⟩ (Value.ref b :: argsL).toArray) :
    ∃ (v : Option Value) (vm₁ : Vm) (B : Pt), s.WarmedH vm₁ ∧ Stand p l e R s m args below meth c B.U B.locs B.cells B.slots ∧ Post ⟨T.setVm vm₁, locs, cells, slots⟩ (Value.ref b :: argsL).toArray v B ∧
      ∀ target, Steps p.tables e below (B.U.setTop { g with pc := g.pc + 3, stack := v.toList ++ rest }) target → Steps p.tables e below (T.setTop g) target := by
  obtain ⟨mk, methM, hnamed, hmethM, hstM, habM⟩ := Cond.instanceMethod_spec hinst
  obtain ⟨m8, methM', cM, hn8, hmethM', -, -, -, -, -, -, hsigM⟩ := Cond.codeWith_spec hcode
  cases Option.some.inj (hn8.symm.trans hnamed)
  cases hmethM.symm.trans hmethM'
  obtain ⟨c2, r2, m2, q1, q2, q3, q4, kP, hkP, hkPi⟩ := Cond.selects_spec hsel
  cases hcls.symm.trans q1
  cases (State.methodFound?_of_named hnamed hy).symm.trans q2
  cases hnamed.symm.trans q3
  have hselP : selectMethod e.platform s.vm cellB.cls mk = .method mk := by rw [Launch.admits_selectMethod X.admits]; exact q4
  obtain ⟨vm₁, X₁, hstep₁⟩ := X.invokevirtual hexec hown hlink hnamed hmethM hstM hkP hkPi hy (a := b) (cell := cellB) hcell
    (fun z h => by rw [h] at hobj; cases hobj) hselP hmethM habM hkP hkPi (g := g) hg (argsL := argsL) (rest := rest) (hlen _ hsigM) hstack hdg
  obtain ⟨v, B, X', hpost, hsteps⟩ := hK m meth c ⟨T.setVm vm₁, locs, cells, slots⟩ { g with stack := rest } (.invokevirtual index) mk (Value.ref b :: argsL).toArray X₁ hg hsize hdg hW (X₁.named hnamed) (hpre vm₁ X₁.warmed)
  exact ⟨v, vm₁, B, X₁.warmed, X', hpost, fun target h => hstep₁ _ fun acts => by rw [doInvoke_state]; exact hsteps.trans h⟩
abbrev vx_CVW (R : Room) (s : State) (args : Array Value) (own C : String) (index : Nat) (y : MethodName) (bytes : ByteArray) (maxL : Nat) (ret : Option FieldType) (hh : List (Nat × Nat × Nat × Nat)) (ws : List Cond) (rm : Room) (mc ms n : Nat) : Prop :=
  (rm.cells = mc ∧ rm.slots = ms ∧ rm.frames + 1 ≤ R.frames ∧ 8 + (maxL + 11) + rm.locals ≤ R.locals ∧ (∀ w ∈ ws, ∀ (a' : Array Value) (U : State), s.WarmedH U.vm → w.before a' U = true) ∧ Cond.codeWith y bytes maxL ret hh ∈ ws) ∧
  (Cond.codeWith y bytes maxL ret hh).before args s = true ∧ (Cond.initialized y.cls).before args s = true ∧ (y.cls ≠ "java/lang/invoke/MethodHandle" ∧ y.cls ≠ "java/lang/invoke/VarHandle") ∧
  (∀ sig, parseMethodDescriptor y.desc = some sig → n = sig.parameters.length) ∧ (Cond.methodLink own index y).before args s = true ∧ (Cond.instanceMethod y).before args s = true ∧ (Cond.selects C y y).before args s = true
theorem vx_cwVW {own C : String} {index maxL mc ms : Nat} {y : MethodName} {bytes : ByteArray} {ret : Option FieldType} {hh : List (Nat × Nat × Nat × Nat)} {Ts ws ws' : List Cond} {rm : Room} (n : Nat) (ht : ∀ w ∈ Ts, w.before args s = true) (hT : GoodIn Ts (wsV own index C y ws)) (hw : ws = Cond.codeWith y bytes maxL ret hh :: ws') (hrc : rm.cells = mc) (hrs : rm.slots = ms)
    (hd : y.cls = C ∧ y.cls ≠ "java/lang/invoke/MethodHandle" ∧ y.cls ≠ "java/lang/invoke/VarHandle" ∧ (parseMethodDescriptor y.desc).map (fun d => d.parameters.length) = some n) (hR : rm.frames + 1 ≤ R.frames ∧ 8 + (maxL + 11) + rm.locals ≤ R.locals) :
    vx_CVW R s args own C index y bytes maxL ret hh ws rm mc ms n := by
  obtain ⟨hC, hd⟩ := hd
  subst hC
  have ok : ∀ w ∈ wsV own index y.cls y ws, w.before args s = true := fun w h => ht w (hT w h).1
  have hG : GoodIn Ts ws := fun w h => hT w (by unfold wsV; exact List.mem_append_right _ h)
  have hc : Cond.codeWith y bytes maxL ret hh ∈ ws := by rw [hw]; exact List.mem_cons_self
  refine ⟨⟨hrc, hrs, hR.1, hR.2, pay_in ht hG, hc⟩, ht _ (hG _ hc).1, ok _ (by simp [wsV]), ⟨hd.1, hd.2.1⟩, fun sig h => ?_, ok _ (by simp [wsV]), ok _ (by simp [wsV]), ok _ (by simp [wsV])⟩
  have h2 := hd.2.2
  rw [h] at h2
  exact (Option.some.inj h2).symm
theorem vx_runVW {y : MethodName} {bytes cc : ByteArray} {maxL nL mc ms n index : Nat} {ret : Option FieldType} {hh : List (Nat × Nat × Nat × Nat)} {ws : List Cond} {rm : Room} {Pc : Array Value → State → Prop} {Qc : Array Value → State → Outcome → State → Prop} {free : Addr → Prop} {Ts : List Cond} {own C : String} {b : Addr} {As rest : List Value} {g : JFrame}
    (S : CallFix p m c cc nL s args Ts own) (hM : Met l y ws rm Pc Qc mc ms free) (cw : vx_CVW R s args own C index y bytes maxL ret hh ws rm mc ms n) (hp : PreV s H C b Pc As)
    (hg : g.method = m) (hn : As.length = n) (hsize : g.locals.size = nL) (hstack : g.stack = As.reverse ++ .ref b :: rest) (hW : 2 * g.monitorRoom + (rest.map fun v => v.category).sum ≤ 8) (hdg : decode cc g.pc = .ok (.invokevirtual index, 3)) (hf : cells + mc ≤ R.cells ∧ slots + ms ≤ R.slots) :
    va_Run p l e R s m args below meth c H locs cells slots mc ms g rest (Qc (Value.ref b :: As).toArray) free := by
  obtain ⟨⟨hrc, hrs, hfr, hlo, hws, hcw⟩, hcode, hini, hy, hlen, hl, hin, hse⟩ := cw
  have hK : Back l R p e below s args y 3 8 (PreOf R mc ms Pc) (PostOf Qc mc ms free) := va_backW (hh := hh) (bytes := bytes) (maxL := maxL) (ret := ret) hM hp.1 hrc hrs hfr hlo hws hcw (fun a' U hW => word_at hW (Or.inl (by first | rfl | simp [Cond.onTables, Cond.keeps, Cond.steady])) hini)
  obtain ⟨hx, hb, hml, ho, -⟩ := S
  obtain ⟨-, ⟨cellB, hcB, hoB, hclB⟩, hPc⟩ := hp
  intro T hT X
  obtain ⟨v, vm₁, ⟨U', l2, c2, s2⟩, hW₁, X', ⟨g', mk, t, L, e1, e2, hq, h1, hL, h2, h3⟩, st⟩ := vx_callVW X hx (C := C) (hh := hh) (bytes := bytes) (maxL := maxL) (ret := ret) ho hl hin hse hcode hy hK (by rw [hT]; exact hcB) hoB hclB hg (hsize.trans hml.symm) (argsL := As) (rest := rest) (fun sig h => hn.trans (hlen sig h)) hstack hW (by rw [hb]; exact hdg)
    (fun vm₁ hW₁ => ⟨hf.1, hf.2, hPc (T.setVm vm₁) hT hW₁⟩)
  dsimp only [Pt.U, Pt.locs, Pt.cells, Pt.slots] at X' e1 e2 h1 h2 h3 st
  subst h1; subst h2; subst h3
  exact ⟨v, (T.setVm vm₁).calling g' mk (Value.ref b :: As).toArray, t, U', L, hT, X', hL, e1, e2, hq, st⟩
section
variable {y : MethodName} {bytes cc : ByteArray} {maxL nL mc ms n index : Nat} {ret : Option FieldType} {ws : List Cond} {rm : Room} {Pc : Array Value → State → Prop} {Qc : Array Value → State → Outcome → State → Prop} {XC : String → State → State → Prop} {free : Addr → Prop} {Ts : List Cond} {own C : String} {b : Addr} {As rest : List Value} {g : JFrame}
theorem vx_runVX {hh : List (Nat × Nat × Nat × Nat)} (S : CallFix p m c cc nL s args Ts own) (hM : vx_Met l y ws rm Pc Qc XC mc ms free) (cw : vx_CVW R s args own C index y bytes maxL ret hh ws rm mc ms n) (hp : PreV s H C b Pc As)
    (hg : g.method = m) (hn : As.length = n) (hsize : g.locals.size = nL) (hstack : g.stack = As.reverse ++ .ref b :: rest) (hW : 2 * g.monitorRoom + (rest.map fun v => v.category).sum ≤ 8) (hdg : decode cc g.pc = .ok (.invokevirtual index, 3)) (hf : cells + mc ≤ R.cells ∧ slots + ms ≤ R.slots) :
    vx_Run p l e R s m args below meth c H locs cells slots mc ms g rest (Qc (Value.ref b :: As).toArray) XC free := by
  obtain ⟨⟨hrc, hrs, hfr, hlo, hws, hcw⟩, hcode, hini, hy, hlen, hl, hin, hse⟩ := cw
  have hK : vx_Back l R p e below s args y 3 8 (PreOf R mc ms Pc) (PostOf Qc mc ms free) (vx_Post XC mc ms free) := vx_backW (hh := hh) (bytes := bytes) (maxL := maxL) (ret := ret) hM hp.1 hrc hrs hfr hlo hws hcw (fun a' U hW => word_at hW (Or.inl (by first | rfl | simp [Cond.onTables, Cond.keeps, Cond.steady])) hini)
  obtain ⟨hx, hb, hml, ho, -⟩ := S
  obtain ⟨-, ⟨cellB, hcB, hoB, hclB⟩, hPc⟩ := hp
  intro T hT X
  rcases vx_callVX X hx (C := C) (hh := hh) (bytes := bytes) (maxL := maxL) (ret := ret) ho hl hin hse hcode hy hK (by rw [hT]; exact hcB) hoB hclB hg (hsize.trans hml.symm) (argsL := As) (rest := rest) (fun sig h => hn.trans (hlen sig h)) hstack hW (by rw [hb]; exact hdg)
    (fun vm₁ hW₁ => ⟨hf.1, hf.2, hPc (T.setVm vm₁) hT hW₁⟩) with ⟨v, vm₁, ⟨U', l2, c2, s2⟩, hW₁, X', ⟨g', mk, t, L, e1, e2, hq, h1, hL, h2, h3⟩, st⟩ | ⟨q, vm₁, ⟨U', l2, c2, s2⟩, hW₁, X', ⟨g', mk, t, L, E, ce, e1, e2, hq, hce, hcv, hcl, h1, hL, h2, h3⟩, st⟩
  · dsimp only [Pt.U, Pt.locs, Pt.cells, Pt.slots] at X' e1 e2 h1 h2 h3 st
    subst h1; subst h2; subst h3
    exact Or.inl ⟨v, (T.setVm vm₁).calling g' mk (Value.ref b :: As).toArray, t, U', L, hT, X', hL, e1, e2, hq, st⟩
  · dsimp only [Pt.U, Pt.locs, Pt.cells, Pt.slots] at X' e1 e2 h1 h2 h3 st hcl
    subst h1; subst h2; subst h3
    exact Or.inr ⟨q, (T.setVm vm₁).calling g' mk (Value.ref b :: As).toArray, t, U', L, E, ce, hT, X', hL, e1, e2, hq, hce, hcv, vx_cls hW₁ hcl, st⟩
theorem vx_runSX {hh : List (Nat × Nat × Nat × Nat)} (S : CallFix p m c cc nL s args Ts own) (hM : vx_Met l y ws rm Pc Qc XC mc ms free) (cw : vx_CSW R s args own index y bytes maxL ret hh ws rm mc ms n) (hp : PreS s H Pc As)
    (hg : g.method = m) (hn : As.length = n) (hsize : g.locals.size = nL) (hstack : g.stack = As.reverse ++ rest) (hW : 2 * g.monitorRoom + (rest.map fun v => v.category).sum ≤ 8) (hdg : decode cc g.pc = .ok (.invokestatic index, 3)) (hf : cells + mc ≤ R.cells ∧ slots + ms ≤ R.slots) :
    vx_Run p l e R s m args below meth c H locs cells slots mc ms g rest (Qc As.toArray) XC free := by
  obtain ⟨⟨hrc, hrs, hfr, hlo, hws, hcw⟩, hcode, hini, hy, hlen, hl, hstt⟩ := cw
  have hK : vx_Back l R p e below s args y 3 8 (PreOf R mc ms Pc) (PostOf Qc mc ms free) (vx_Post XC mc ms free) := vx_backW (hh := hh) (bytes := bytes) (maxL := maxL) (ret := ret) hM hp.1 hrc hrs hfr hlo hws hcw (fun a' U hW => word_at hW (Or.inl (by first | rfl | simp [Cond.onTables, Cond.keeps, Cond.steady])) hini)
  obtain ⟨hx, hb, hml, ho, -⟩ := S
  intro T hT X
  rcases vx_callSX X hx (hh := hh) (bytes := bytes) (maxL := maxL) (ret := ret) ho hl hstt hini hcode hy hK hg (hsize.trans hml.symm) (argsL := As) (rest := rest) (fun sig h => hn.trans (hlen sig h)) hstack hW (by rw [hb]; exact hdg)
    (fun vm₁ hW₁ => ⟨hf.1, hf.2, hp.2 (T.setVm vm₁) hT hW₁⟩) with ⟨v, vm₁, ⟨U', l2, c2, s2⟩, hW₁, X', ⟨g', mk, t, L, e1, e2, hq, h1, hL, h2, h3⟩, st⟩ | ⟨q, vm₁, ⟨U', l2, c2, s2⟩, hW₁, X', ⟨g', mk, t, L, E, ce, e1, e2, hq, hce, hcv, hcl, h1, hL, h2, h3⟩, st⟩
  · dsimp only [Pt.U, Pt.locs, Pt.cells, Pt.slots] at X' e1 e2 h1 h2 h3 st
    subst h1; subst h2; subst h3
    exact Or.inl ⟨v, (T.setVm vm₁).calling g' mk As.toArray, t, U', L, hT, X', hL, e1, e2, hq, st⟩
  · dsimp only [Pt.U, Pt.locs, Pt.cells, Pt.slots] at X' e1 e2 h1 h2 h3 st hcl
    subst h1; subst h2; subst h3
    exact Or.inr ⟨q, (T.setVm vm₁).calling g' mk As.toArray, t, U', L, E, ce, hT, X', hL, e1, e2, hq, hce, hcv, vx_cls hW₁ hcl, st⟩
end
end VXH
theorem vx_ofWH {l : Launch} {y : MethodName} {ws ws' : List Cond} {rm : Room} {Pc : Array Value → State → Prop} {Qc : Array Value → State → Outcome → State → Prop} {XC : String → State → State → Prop} {mc ms : Nat} {free : Addr → Prop} {cc : ByteArray} {maxL : Nat} {ret : Option FieldType} {hh : List (Nat × Nat × Nat × Nat)}
    (hy : plainName y.cls = true) (hw : ws = Cond.codeWith y cc maxL ret hh :: ws')
    (body : ∀ p e s m args below meth c s₁, BodyLoose p l y (headSpec ws rm) cc maxL ret e s m args below meth c s₁ → c.maxLocals = maxL → Pc args s →
      W p l e (headSpec ws rm).room s m args below meth c s.heap [] 0 0 (vx_MQ below Qc XC args s mc ms free) (entryFrame m args maxL)) : vx_Met l y ws rm Pc Qc XC mc ms free := by
  refine MetFree.of_bodyS (code := cc) (maxLocals := maxL) (ret := ret) hy ?_ ?_
  · intro args s m h hn
    obtain ⟨m9, meth, c, hn9, h1, h2, h3, h4, -, h5, h6, -⟩ := Cond.codeWith_spec (atoms_spec (ws := ws) h _ (by rw [hw]; exact List.mem_cons_self))
    cases hn.symm.trans hn9
    exact ⟨meth, c, h1, h2, h3, h4, h5, h6⟩
  · intro p e s m args below meth c s₁ B hml hP _
    have hh0 : s₁.heap = s.heap := by rw [B.state]; rfl
    obtain ⟨t, a1, o, b1, b2, b3⟩ := body p e s m args below meth c s₁ B hml hP s₁ hh0 (Stand.of_body B)
    exact ⟨t, o, a1, b1, b2, b3⟩
/-! ===== END ===== -/
end
section
/-! ===== BEGIN printed: names, fields, word lists, decode rows ===== -/
def RX0 : String := "EditGraph"
def TX0 : u_T := fun k => match k with
  | 0 => ("EditGraph", "eventCount", "I", false)
  | 1 => ("EditGraph", "makers", "[I", true)
  | 2 => ("EditGraph", "letters", "[I", true)
  | 3 => ("EditGraph", "targets", "[I", true)
  | 4 => ("EditGraph", "parentSets", "[J", true)
  | 5 => ("EditGraph", "ancestorSets", "[J", true)
  | 6 => ("EditGraph", "laterSets", "[J", true)
  | 7 => ("EditGraph", "knownSets", "[J", true)
  | 8 => ("EditGraph", "firstAtBeginning", "I", false)
  | 9 => ("EditGraph", "firstHanging", "[I", true)
  | 10 => ("EditGraph", "nextBeside", "[I", true)
  | 11 => ("EditGraph", "textEvents", "[I", true)
  | 12 => ("EditGraph", "waiting", "[I", true)
  | _ => ("EditGraph", "behind", "[I", true)
def tyX0 : Nat → FieldType := fun k => match k with
  | 0 => .int
  | 1 => .array .int
  | 2 => .array .int
  | 3 => .array .int
  | 4 => .array .long
  | 5 => .array .long
  | 6 => .array .long
  | 7 => .array .long
  | 8 => .int
  | 9 => .array .int
  | 10 => .array .int
  | 11 => .array .int
  | 12 => .array .int
  | _ => .array .int
abbrev wsX00 : List Cond := u_ws RX0 TX0 14
theorem nmX0 : ∀ a, a < 14 → ∀ b, b < 14 → a ≠ b → (TX0 a).2.1 ≠ (TX0 b).2.1 := by decide +kernel
theorem tyX0_ok : ∀ k, k < 14 → parseFieldDescriptor (TX0 k).2.2.1 = some (tyX0 k) := by decide +kernel
abbrev cX0_init : ByteArray := prog_1_method_1_code
def yX0_init : MethodName := ⟨RX0, "<init>", "()V"⟩
abbrev cX0_insert : ByteArray := prog_1_method_2_code
def yX0_insert : MethodName := ⟨RX0, "insert", "(III)I"⟩
abbrev cX0_delete : ByteArray := prog_1_method_3_code
def yX0_delete : MethodName := ⟨RX0, "delete", "(II)I"⟩
abbrev cX0_learn : ByteArray := prog_1_method_4_code
def yX0_learn : MethodName := ⟨RX0, "learn", "(II)I"⟩
abbrev cX0_learnEvent : ByteArray := prog_1_method_5_code
def yX0_learnEvent : MethodName := ⟨RX0, "learnEvent", "(II)I"⟩
abbrev cX0_events : ByteArray := prog_1_method_6_code
def yX0_events : MethodName := ⟨RX0, "events", "()I"⟩
abbrev cX0_length : ByteArray := prog_1_method_7_code
def yX0_length : MethodName := ⟨RX0, "length", "(I)I"⟩
abbrev cX0_letterAt : ByteArray := prog_1_method_8_code
def yX0_letterAt : MethodName := ⟨RX0, "letterAt", "(II)I"⟩
abbrev cX0_letterByList : ByteArray := prog_1_method_9_code
def yX0_letterByList : MethodName := ⟨RX0, "letterByList", "(II)I"⟩
abbrev cX0_eventAt : ByteArray := prog_1_method_10_code
def yX0_eventAt : MethodName := ⟨RX0, "eventAt", "(II)I"⟩
abbrev cX0_lengthOf : ByteArray := prog_1_method_11_code
def yX0_lengthOf : MethodName := ⟨RX0, "lengthOf", "(I)I"⟩
abbrev cX0_letterOf : ByteArray := prog_1_method_12_code
def yX0_letterOf : MethodName := ⟨RX0, "letterOf", "(II)I"⟩
abbrev cX0_lettersBy : ByteArray := prog_1_method_13_code
def yX0_lettersBy : MethodName := ⟨RX0, "lettersBy", "(II)I"⟩
abbrev cX0_authorOf : ByteArray := prog_1_method_14_code
def yX0_authorOf : MethodName := ⟨RX0, "authorOf", "(I)I"⟩
abbrev cX0_parents : ByteArray := prog_1_method_15_code
def yX0_parents : MethodName := ⟨RX0, "parents", "(I)J"⟩
abbrev cX0_isLater : ByteArray := prog_1_method_16_code
def yX0_isLater : MethodName := ⟨RX0, "isLater", "(II)Z"⟩
abbrev cX0_version : ByteArray := prog_1_method_17_code
def yX0_version : MethodName := ⟨RX0, "version", "(I)J"⟩
abbrev cX0_heads : ByteArray := prog_1_method_18_code
def yX0_heads : MethodName := ⟨RX0, "heads", "(I)J"⟩
abbrev cX0_commonHeads : ByteArray := prog_1_method_19_code
def yX0_commonHeads : MethodName := ⟨RX0, "commonHeads", "(II)J"⟩
abbrev cX0_concurrent : ByteArray := prog_1_method_20_code
def yX0_concurrent : MethodName := ⟨RX0, "concurrent", "(I)I"⟩
abbrev cX0_critical : ByteArray := prog_1_method_21_code
def yX0_critical : MethodName := ⟨RX0, "critical", "(I)J"⟩
abbrev cX0_toReplay : ByteArray := prog_1_method_22_code
def yX0_toReplay : MethodName := ⟨RX0, "toReplay", "(I)I"⟩
abbrev cX0_runs : ByteArray := prog_1_method_23_code
def yX0_runs : MethodName := ⟨RX0, "runs", "(I)I"⟩
abbrev cX0_checkAuthor : ByteArray := prog_1_method_24_code
def yX0_checkAuthor : MethodName := ⟨RX0, "checkAuthor", "(I)V"⟩
abbrev cX0_checkEvent : ByteArray := prog_1_method_25_code
def yX0_checkEvent : MethodName := ⟨RX0, "checkEvent", "(I)V"⟩
abbrev cX0_checkPlace : ByteArray := prog_1_method_26_code
def yX0_checkPlace : MethodName := ⟨RX0, "checkPlace", "(II)V"⟩
abbrev cX0_checkRoom : ByteArray := prog_1_method_27_code
def yX0_checkRoom : MethodName := ⟨RX0, "checkRoom", "()V"⟩
abbrev cX0_isEvent : ByteArray := prog_1_method_28_code
def yX0_isEvent : MethodName := ⟨RX0, "isEvent", "(I)Z"⟩
abbrev cX0_only : ByteArray := prog_1_method_29_code
def yX0_only : MethodName := ⟨RX0, "only", "(I)J"⟩
abbrev cX0_has : ByteArray := prog_1_method_30_code
def yX0_has : MethodName := ⟨RX0, "has", "(JI)Z"⟩
abbrev cX0_versionOfEvent : ByteArray := prog_1_method_31_code
def yX0_versionOfEvent : MethodName := ⟨RX0, "versionOfEvent", "(I)J"⟩
abbrev cX0_relatedTo : ByteArray := prog_1_method_32_code
def yX0_relatedTo : MethodName := ⟨RX0, "relatedTo", "(I)J"⟩
abbrev cX0_headsOf : ByteArray := prog_1_method_33_code
def yX0_headsOf : MethodName := ⟨RX0, "headsOf", "(J)J"⟩
abbrev cX0_criticalOf : ByteArray := prog_1_method_34_code
def yX0_criticalOf : MethodName := ⟨RX0, "criticalOf", "(J)J"⟩
abbrev cX0_continuesRun : ByteArray := prog_1_method_35_code
def yX0_continuesRun : MethodName := ⟨RX0, "continuesRun", "(I)Z"⟩
abbrev cX0_addEvent : ByteArray := prog_1_method_36_code
def yX0_addEvent : MethodName := ⟨RX0, "addEvent", "(III)I"⟩
abbrev cX0_markLater : ByteArray := prog_1_method_37_code
def yX0_markLater : MethodName := ⟨RX0, "markLater", "(JI)V"⟩
abbrev cX0_hangLetter : ByteArray := prog_1_method_38_code
def yX0_hangLetter : MethodName := ⟨RX0, "hangLetter", "(II)V"⟩
abbrev cX0_addKnown : ByteArray := prog_1_method_39_code
def yX0_addKnown : MethodName := ⟨RX0, "addKnown", "(IJ)I"⟩
abbrev cX0_isInsert : ByteArray := prog_1_method_40_code
def yX0_isInsert : MethodName := ⟨RX0, "isInsert", "(I)Z"⟩
abbrev cX0_eventInText : ByteArray := prog_1_method_41_code
def yX0_eventInText : MethodName := ⟨RX0, "eventInText", "(JI)I"⟩
abbrev cX0_standingIn : ByteArray := prog_1_method_42_code
def yX0_standingIn : MethodName := ⟨RX0, "standingIn", "(J)J"⟩
abbrev cX0_findText : ByteArray := prog_1_method_43_code
def yX0_findText : MethodName := ⟨RX0, "findText", "(J)I"⟩
abbrev cX0_putWaiting : ByteArray := prog_1_method_44_code
def yX0_putWaiting : MethodName := ⟨RX0, "putWaiting", "(II)I"⟩
abbrev cX0_putText : ByteArray := prog_1_method_45_code
def yX0_putText : MethodName := ⟨RX0, "putText", "(JII)I"⟩
abbrev cX0_findTextByList : ByteArray := prog_1_method_46_code
def yX0_findTextByList : MethodName := ⟨RX0, "findTextByList", "(J)I"⟩
abbrev cX0_layList : ByteArray := prog_1_method_47_code
def yX0_layList : MethodName := ⟨RX0, "layList", "(J)I"⟩
def RX1 : String := "EditGraphModel"
def TX1 : u_T := fun k => match k with
  | _ => ("", "", "", false)
def tyX1 : Nat → FieldType := fun k => match k with
  | _ => .int
abbrev wsX10 : List Cond := u_ws RX1 TX1 0
theorem nmX1 : ∀ a, a < 0 → ∀ b, b < 0 → a ≠ b → (TX1 a).2.1 ≠ (TX1 b).2.1 := by decide +kernel
theorem tyX1_ok : ∀ k, k < 0 → parseFieldDescriptor (TX1 k).2.2.1 = some (tyX1 k) := by decide +kernel
def RJ13 : String := "java/lang/Long"
def TJ13 : u_T := fun k => match k with
  | _ => ("", "", "", false)
def tyJ13 : Nat → FieldType := fun k => match k with
  | _ => .int
abbrev wsJ130 : List Cond := u_ws RJ13 TJ13 0
theorem nmJ13 : ∀ a, a < 0 → ∀ b, b < 0 → a ≠ b → (TJ13 a).2.1 ≠ (TJ13 b).2.1 := by decide +kernel
theorem tyJ13_ok : ∀ k, k < 0 → parseFieldDescriptor (TJ13 k).2.2.1 = some (tyJ13 k) := by decide +kernel
abbrev cJ13_bitCount_95d88 : ByteArray := prog_8_method_50_code
def yJ13_bitCount_95d88 : MethodName := ⟨RJ13, "bitCount", "(J)I"⟩
def RJ0 : String := "java/lang/String"
def TJ0 : u_T := fun k => match k with
  | _ => ("", "", "", false)
def tyJ0 : Nat → FieldType := fun k => match k with
  | _ => .int
abbrev wsJ00 : List Cond := u_ws RJ0 TJ0 0
theorem nmJ0 : ∀ a, a < 0 → ∀ b, b < 0 → a ≠ b → (TJ0 a).2.1 ≠ (TJ0 b).2.1 := by decide +kernel
theorem tyJ0_ok : ∀ k, k < 0 → parseFieldDescriptor (TJ0 k).2.2.1 = some (tyJ0 k) := by decide +kernel
def RL : String := "EditGraphLaw"
abbrev cL_drawn : ByteArray := method_2_code
def yL_drawn : MethodName := ⟨RL, "drawn", "([II)I"⟩
abbrev cL_insert : ByteArray := method_3_code
def yL_insert : MethodName := ⟨RL, "insert", "(LEditGraph;III)I"⟩
abbrev cL_does : ByteArray := method_4_code
def yL_does : MethodName := ⟨RL, "does", "(LEditGraph;III)I"⟩
abbrev cL_of : ByteArray := method_5_code
def yL_of : MethodName := ⟨RL, "of", "(LEditGraph;III)I"⟩
abbrev cL_set : ByteArray := method_6_code
def yL_set : MethodName := ⟨RL, "set", "(LEditGraph;III)J"⟩
abbrev cL_by : ByteArray := method_7_code
def yL_by : MethodName := ⟨RL, "by", "(LEditGraph;III)J"⟩
abbrev cL_law : ByteArray := code
def yL_law : MethodName := ⟨RL, "law", "([I)Z"⟩
def wsX0_init : List Cond := .code yX0_init cX0_init 1 none :: ([.methodLink RX0 1 objectInit, .instanceMethod objectInit, .code objectInit ⟨#[0xb1]⟩ 1 none, .fieldLink RX0 7 "EditGraph" "eventCount" "I", .arrayClass .int, .fieldLink RX0 13 "EditGraph" "makers" "[I", .fieldLink RX0 17 "EditGraph" "letters" "[I", .fieldLink RX0 20 "EditGraph" "targets" "[I", .arrayClass .long, .fieldLink RX0 23 "EditGraph" "parentSets" "[J", .fieldLink RX0 27 "EditGraph" "ancestorSets" "[J", .fieldLink RX0 30 "EditGraph" "laterSets" "[J", .fieldLink RX0 33 "EditGraph" "knownSets" "[J", .fieldLink RX0 36 "EditGraph" "firstAtBeginning" "I", .fieldLink RX0 39 "EditGraph" "firstHanging" "[I", .fieldLink RX0 42 "EditGraph" "nextBeside" "[I", .fieldLink RX0 45 "EditGraph" "textEvents" "[I", .fieldLink RX0 48 "EditGraph" "waiting" "[I", .fieldLink RX0 51 "EditGraph" "behind" "[I"] ++ wsX00)
def wsX0_checkAuthor : List Cond := .code yX0_checkAuthor cX0_checkAuthor 2 none :: ([.classLink RX0 126 "java/lang/IndexOutOfBoundsException", .initialized "java/lang/IndexOutOfBoundsException"] ++ (vx_atS RX0 130 "java/lang/IndexOutOfBoundsException" ["java/lang/RuntimeException", "java/lang/Exception"]).filter goodWord)
def wsX0_only : List Cond := .code yX0_only cX0_only 1 (some .long) :: ([])
def wsX0_has : List Cond := .code yX0_has cX0_has 3 (some .boolean) :: ([.methodLink RX0 143 yX0_only, .static yX0_only, .initialized RX0, .code yX0_only cX0_only 1 (some .long)])
def wsX0_isInsert : List Cond := .code yX0_isInsert cX0_isInsert 2 (some .boolean) :: ([.fieldLink RX0 17 "EditGraph" "letters" "[I"] ++ wsX00)
def wsX0_standingIn : List Cond := .code yX0_standingIn cX0_standingIn 8 (some .long) :: ([.fieldLink RX0 7 "EditGraph" "eventCount" "I", .fieldLink RX0 20 "EditGraph" "targets" "[I", .constantLong RX0 112 (-1), .methodLink RX0 101 yX0_has, .static yX0_has, .initialized RX0, .code yX0_has cX0_has 3 (some .boolean), .methodLink RX0 143 yX0_only, .static yX0_only, .code yX0_only cX0_only 1 (some .long), .methodLink RX0 146 yX0_isInsert, .instanceMethod yX0_isInsert, .selects RX0 yX0_isInsert yX0_isInsert, .code yX0_isInsert cX0_isInsert 2 (some .boolean), .fieldLink RX0 17 "EditGraph" "letters" "[I"] ++ wsX00)
def wsX0_isEvent : List Cond := .code yX0_isEvent cX0_isEvent 2 (some .boolean) :: ([.fieldLink RX0 7 "EditGraph" "eventCount" "I"] ++ wsX00)
def wsX0_putWaiting : List Cond := .code yX0_putWaiting cX0_putWaiting 3 (some .int) :: ([.fieldLink RX0 48 "EditGraph" "waiting" "[I", .methodLink RX0 131 yX0_isEvent, .instanceMethod yX0_isEvent, .selects RX0 yX0_isEvent yX0_isEvent, .initialized RX0, .code yX0_isEvent cX0_isEvent 2 (some .boolean), .fieldLink RX0 7 "EditGraph" "eventCount" "I"] ++ wsX00)
def wsX0_putText : List Cond := .code yX0_putText cX0_putText 5 (some .int) :: ([.fieldLink RX0 45 "EditGraph" "textEvents" "[I", .methodLink RX0 101 yX0_has, .static yX0_has, .initialized RX0, .code yX0_has cX0_has 3 (some .boolean), .methodLink RX0 143 yX0_only, .static yX0_only, .code yX0_only cX0_only 1 (some .long)] ++ wsX00)
def wsX0_findText_r1 : List Cond := [Cond.fieldLink RX0 36 "EditGraph" "firstAtBeginning" "I", Cond.fieldLink RX0 48 "EditGraph" "waiting" "[I", Cond.fieldLink RX0 42 "EditGraph" "nextBeside" "[I", Cond.fieldLink RX0 39 "EditGraph" "firstHanging" "[I", Cond.methodLink RX0 153 yX0_standingIn, Cond.instanceMethod yX0_standingIn, Cond.selects RX0 yX0_standingIn yX0_standingIn, Cond.initialized RX0, Cond.code yX0_standingIn cX0_standingIn 8 (some .long), Cond.fieldLink RX0 7 "EditGraph" "eventCount" "I", Cond.fieldLink RX0 20 "EditGraph" "targets" "[I", Cond.constantLong RX0 112 (-1), Cond.methodLink RX0 101 yX0_has, Cond.static yX0_has, Cond.code yX0_has cX0_has 3 (some .boolean), Cond.methodLink RX0 143 yX0_only, Cond.static yX0_only, Cond.code yX0_only cX0_only 1 (some .long), Cond.methodLink RX0 146 yX0_isInsert, Cond.instanceMethod yX0_isInsert, Cond.selects RX0 yX0_isInsert yX0_isInsert, Cond.code yX0_isInsert cX0_isInsert 2 (some .boolean), Cond.fieldLink RX0 17 "EditGraph" "letters" "[I", Cond.methodLink RX0 156 yX0_putWaiting]
def wsX0_findText_r2 : List Cond := [Cond.instanceMethod yX0_putWaiting, Cond.selects RX0 yX0_putWaiting yX0_putWaiting, Cond.code yX0_putWaiting cX0_putWaiting 3 (some .int), Cond.methodLink RX0 131 yX0_isEvent, Cond.instanceMethod yX0_isEvent, Cond.selects RX0 yX0_isEvent yX0_isEvent, Cond.code yX0_isEvent cX0_isEvent 2 (some .boolean), Cond.methodLink RX0 160 yX0_putText, Cond.instanceMethod yX0_putText, Cond.selects RX0 yX0_putText yX0_putText, Cond.code yX0_putText cX0_putText 5 (some .int), Cond.fieldLink RX0 45 "EditGraph" "textEvents" "[I"]
def wsX0_findText : List Cond := .code yX0_findText cX0_findText 9 (some .int) :: ((wsX0_findText_r1 ++ wsX0_findText_r2) ++ wsX00)
def wsX0_checkPlace : List Cond := .code yX0_checkPlace cX0_checkPlace 3 none :: ([.classLink RX0 126 "java/lang/IndexOutOfBoundsException", .initialized "java/lang/IndexOutOfBoundsException"] ++ (vx_atS RX0 130 "java/lang/IndexOutOfBoundsException" ["java/lang/RuntimeException", "java/lang/Exception"]).filter goodWord)
def wsX0_checkRoom : List Cond := .code yX0_checkRoom cX0_checkRoom 1 none :: ([.classLink RX0 138 "java/lang/IllegalStateException", .initialized "java/lang/IllegalStateException", .fieldLink RX0 7 "EditGraph" "eventCount" "I"] ++ wsX00 ++ (vx_atS RX0 142 "java/lang/IllegalStateException" ["java/lang/RuntimeException", "java/lang/Exception"]).filter goodWord)
def wsX0_headsOf : List Cond := .code yX0_headsOf cX0_headsOf 6 (some .long) :: ([.fieldLink RX0 7 "EditGraph" "eventCount" "I", .fieldLink RX0 23 "EditGraph" "parentSets" "[J", .constantLong RX0 112 (-1), .methodLink RX0 101 yX0_has, .static yX0_has, .initialized RX0, .code yX0_has cX0_has 3 (some .boolean), .methodLink RX0 143 yX0_only, .static yX0_only, .code yX0_only cX0_only 1 (some .long)] ++ wsX00)
def wsX0_markLater : List Cond := .code yX0_markLater cX0_markLater 5 none :: ([.fieldLink RX0 7 "EditGraph" "eventCount" "I", .fieldLink RX0 30 "EditGraph" "laterSets" "[J", .methodLink RX0 101 yX0_has, .static yX0_has, .initialized RX0, .code yX0_has cX0_has 3 (some .boolean), .methodLink RX0 143 yX0_only, .static yX0_only, .code yX0_only cX0_only 1 (some .long)] ++ wsX00)
def wsX0_addEvent : List Cond := .code yX0_addEvent cX0_addEvent 7 (some .int) :: ([.fieldLink RX0 7 "EditGraph" "eventCount" "I", .fieldLink RX0 33 "EditGraph" "knownSets" "[J", .fieldLink RX0 13 "EditGraph" "makers" "[I", .fieldLink RX0 17 "EditGraph" "letters" "[I", .fieldLink RX0 20 "EditGraph" "targets" "[I", .fieldLink RX0 23 "EditGraph" "parentSets" "[J", .fieldLink RX0 27 "EditGraph" "ancestorSets" "[J", .methodLink RX0 105 yX0_headsOf, .instanceMethod yX0_headsOf, .selects RX0 yX0_headsOf yX0_headsOf, .initialized RX0, .code yX0_headsOf cX0_headsOf 6 (some .long), .constantLong RX0 112 (-1), .methodLink RX0 101 yX0_has, .static yX0_has, .code yX0_has cX0_has 3 (some .boolean), .methodLink RX0 143 yX0_only, .static yX0_only, .code yX0_only cX0_only 1 (some .long), .methodLink RX0 149 yX0_markLater, .instanceMethod yX0_markLater, .selects RX0 yX0_markLater yX0_markLater, .code yX0_markLater cX0_markLater 5 none, .fieldLink RX0 30 "EditGraph" "laterSets" "[J"] ++ wsX00)
def wsX0_hangLetter : List Cond := .code yX0_hangLetter cX0_hangLetter 3 none :: ([.fieldLink RX0 39 "EditGraph" "firstHanging" "[I", .fieldLink RX0 42 "EditGraph" "nextBeside" "[I", .fieldLink RX0 36 "EditGraph" "firstAtBeginning" "I", .methodLink RX0 131 yX0_isEvent, .instanceMethod yX0_isEvent, .selects RX0 yX0_isEvent yX0_isEvent, .initialized RX0, .code yX0_isEvent cX0_isEvent 2 (some .boolean), .fieldLink RX0 7 "EditGraph" "eventCount" "I"] ++ wsX00)
def wsX0_insert_r1 : List Cond := [Cond.classLink RX0 66 "java/lang/IllegalArgumentException", Cond.initialized "java/lang/IllegalArgumentException", Cond.fieldLink RX0 33 "EditGraph" "knownSets" "[J", Cond.fieldLink RX0 45 "EditGraph" "textEvents" "[I", Cond.methodLink RX0 54 yX0_checkAuthor, Cond.instanceMethod yX0_checkAuthor, Cond.selects RX0 yX0_checkAuthor yX0_checkAuthor, Cond.initialized RX0, Cond.code yX0_checkAuthor cX0_checkAuthor 2 none, Cond.classLink RX0 126 "java/lang/IndexOutOfBoundsException", Cond.initialized "java/lang/IndexOutOfBoundsException", Cond.methodLink RX0 58 yX0_findText, Cond.instanceMethod yX0_findText, Cond.selects RX0 yX0_findText yX0_findText, Cond.code yX0_findText cX0_findText 9 (some .int), Cond.fieldLink RX0 36 "EditGraph" "firstAtBeginning" "I", Cond.fieldLink RX0 48 "EditGraph" "waiting" "[I", Cond.fieldLink RX0 42 "EditGraph" "nextBeside" "[I", Cond.fieldLink RX0 39 "EditGraph" "firstHanging" "[I", Cond.methodLink RX0 153 yX0_standingIn, Cond.instanceMethod yX0_standingIn, Cond.selects RX0 yX0_standingIn yX0_standingIn, Cond.code yX0_standingIn cX0_standingIn 8 (some .long), Cond.fieldLink RX0 7 "EditGraph" "eventCount" "I"]
def wsX0_insert_r2 : List Cond := [Cond.fieldLink RX0 20 "EditGraph" "targets" "[I", Cond.constantLong RX0 112 (-1), Cond.methodLink RX0 101 yX0_has, Cond.static yX0_has, Cond.code yX0_has cX0_has 3 (some .boolean), Cond.methodLink RX0 143 yX0_only, Cond.static yX0_only, Cond.code yX0_only cX0_only 1 (some .long), Cond.methodLink RX0 146 yX0_isInsert, Cond.instanceMethod yX0_isInsert, Cond.selects RX0 yX0_isInsert yX0_isInsert, Cond.code yX0_isInsert cX0_isInsert 2 (some .boolean), Cond.fieldLink RX0 17 "EditGraph" "letters" "[I", Cond.methodLink RX0 156 yX0_putWaiting, Cond.instanceMethod yX0_putWaiting, Cond.selects RX0 yX0_putWaiting yX0_putWaiting, Cond.code yX0_putWaiting cX0_putWaiting 3 (some .int), Cond.methodLink RX0 131 yX0_isEvent, Cond.instanceMethod yX0_isEvent, Cond.selects RX0 yX0_isEvent yX0_isEvent, Cond.code yX0_isEvent cX0_isEvent 2 (some .boolean), Cond.methodLink RX0 160 yX0_putText, Cond.instanceMethod yX0_putText, Cond.selects RX0 yX0_putText yX0_putText]
def wsX0_insert_r3 : List Cond := [Cond.code yX0_putText cX0_putText 5 (some .int), Cond.methodLink RX0 62 yX0_checkPlace, Cond.instanceMethod yX0_checkPlace, Cond.selects RX0 yX0_checkPlace yX0_checkPlace, Cond.code yX0_checkPlace cX0_checkPlace 3 none, Cond.methodLink RX0 73 yX0_checkRoom, Cond.instanceMethod yX0_checkRoom, Cond.selects RX0 yX0_checkRoom yX0_checkRoom, Cond.code yX0_checkRoom cX0_checkRoom 1 none, Cond.classLink RX0 138 "java/lang/IllegalStateException", Cond.initialized "java/lang/IllegalStateException", Cond.methodLink RX0 76 yX0_addEvent, Cond.instanceMethod yX0_addEvent, Cond.selects RX0 yX0_addEvent yX0_addEvent, Cond.code yX0_addEvent cX0_addEvent 7 (some .int), Cond.fieldLink RX0 13 "EditGraph" "makers" "[I", Cond.fieldLink RX0 23 "EditGraph" "parentSets" "[J", Cond.fieldLink RX0 27 "EditGraph" "ancestorSets" "[J", Cond.methodLink RX0 105 yX0_headsOf, Cond.instanceMethod yX0_headsOf, Cond.selects RX0 yX0_headsOf yX0_headsOf, Cond.code yX0_headsOf cX0_headsOf 6 (some .long), Cond.methodLink RX0 149 yX0_markLater, Cond.instanceMethod yX0_markLater]
def wsX0_insert_r4 : List Cond := [Cond.selects RX0 yX0_markLater yX0_markLater, Cond.code yX0_markLater cX0_markLater 5 none, Cond.fieldLink RX0 30 "EditGraph" "laterSets" "[J", Cond.methodLink RX0 80 yX0_hangLetter, Cond.instanceMethod yX0_hangLetter, Cond.selects RX0 yX0_hangLetter yX0_hangLetter, Cond.code yX0_hangLetter cX0_hangLetter 3 none]
def wsX0_insert : List Cond := .code yX0_insert cX0_insert 7 (some .int) :: ((wsX0_insert_r1 ++ (wsX0_insert_r2 ++ (wsX0_insert_r3 ++ wsX0_insert_r4))) ++ wsX00 ++ (vx_atS RX0 70 "java/lang/IllegalArgumentException" ["java/lang/RuntimeException", "java/lang/Exception"]).filter goodWord ++ (vx_atS RX0 130 "java/lang/IndexOutOfBoundsException" ["java/lang/RuntimeException", "java/lang/Exception"]).filter goodWord ++ (vx_atS RX0 142 "java/lang/IllegalStateException" ["java/lang/RuntimeException", "java/lang/Exception"]).filter goodWord)
def wsX0_delete_r1 : List Cond := [Cond.fieldLink RX0 33 "EditGraph" "knownSets" "[J", Cond.fieldLink RX0 45 "EditGraph" "textEvents" "[I", Cond.methodLink RX0 54 yX0_checkAuthor, Cond.instanceMethod yX0_checkAuthor, Cond.selects RX0 yX0_checkAuthor yX0_checkAuthor, Cond.initialized RX0, Cond.code yX0_checkAuthor cX0_checkAuthor 2 none, Cond.classLink RX0 126 "java/lang/IndexOutOfBoundsException", Cond.initialized "java/lang/IndexOutOfBoundsException", Cond.methodLink RX0 58 yX0_findText, Cond.instanceMethod yX0_findText, Cond.selects RX0 yX0_findText yX0_findText, Cond.code yX0_findText cX0_findText 9 (some .int), Cond.fieldLink RX0 36 "EditGraph" "firstAtBeginning" "I", Cond.fieldLink RX0 48 "EditGraph" "waiting" "[I", Cond.fieldLink RX0 42 "EditGraph" "nextBeside" "[I", Cond.fieldLink RX0 39 "EditGraph" "firstHanging" "[I", Cond.methodLink RX0 153 yX0_standingIn, Cond.instanceMethod yX0_standingIn, Cond.selects RX0 yX0_standingIn yX0_standingIn, Cond.code yX0_standingIn cX0_standingIn 8 (some .long), Cond.fieldLink RX0 7 "EditGraph" "eventCount" "I", Cond.fieldLink RX0 20 "EditGraph" "targets" "[I", Cond.constantLong RX0 112 (-1)]
def wsX0_delete_r2 : List Cond := [Cond.methodLink RX0 101 yX0_has, Cond.static yX0_has, Cond.code yX0_has cX0_has 3 (some .boolean), Cond.methodLink RX0 143 yX0_only, Cond.static yX0_only, Cond.code yX0_only cX0_only 1 (some .long), Cond.methodLink RX0 146 yX0_isInsert, Cond.instanceMethod yX0_isInsert, Cond.selects RX0 yX0_isInsert yX0_isInsert, Cond.code yX0_isInsert cX0_isInsert 2 (some .boolean), Cond.fieldLink RX0 17 "EditGraph" "letters" "[I", Cond.methodLink RX0 156 yX0_putWaiting, Cond.instanceMethod yX0_putWaiting, Cond.selects RX0 yX0_putWaiting yX0_putWaiting, Cond.code yX0_putWaiting cX0_putWaiting 3 (some .int), Cond.methodLink RX0 131 yX0_isEvent, Cond.instanceMethod yX0_isEvent, Cond.selects RX0 yX0_isEvent yX0_isEvent, Cond.code yX0_isEvent cX0_isEvent 2 (some .boolean), Cond.methodLink RX0 160 yX0_putText, Cond.instanceMethod yX0_putText, Cond.selects RX0 yX0_putText yX0_putText, Cond.code yX0_putText cX0_putText 5 (some .int), Cond.methodLink RX0 62 yX0_checkPlace]
def wsX0_delete_r3 : List Cond := [Cond.instanceMethod yX0_checkPlace, Cond.selects RX0 yX0_checkPlace yX0_checkPlace, Cond.code yX0_checkPlace cX0_checkPlace 3 none, Cond.methodLink RX0 73 yX0_checkRoom, Cond.instanceMethod yX0_checkRoom, Cond.selects RX0 yX0_checkRoom yX0_checkRoom, Cond.code yX0_checkRoom cX0_checkRoom 1 none, Cond.classLink RX0 138 "java/lang/IllegalStateException", Cond.initialized "java/lang/IllegalStateException", Cond.methodLink RX0 76 yX0_addEvent, Cond.instanceMethod yX0_addEvent, Cond.selects RX0 yX0_addEvent yX0_addEvent, Cond.code yX0_addEvent cX0_addEvent 7 (some .int), Cond.fieldLink RX0 13 "EditGraph" "makers" "[I", Cond.fieldLink RX0 23 "EditGraph" "parentSets" "[J", Cond.fieldLink RX0 27 "EditGraph" "ancestorSets" "[J", Cond.methodLink RX0 105 yX0_headsOf, Cond.instanceMethod yX0_headsOf, Cond.selects RX0 yX0_headsOf yX0_headsOf, Cond.code yX0_headsOf cX0_headsOf 6 (some .long), Cond.methodLink RX0 149 yX0_markLater, Cond.instanceMethod yX0_markLater, Cond.selects RX0 yX0_markLater yX0_markLater, Cond.code yX0_markLater cX0_markLater 5 none]
def wsX0_delete_r4 : List Cond := [Cond.fieldLink RX0 30 "EditGraph" "laterSets" "[J"]
def wsX0_delete : List Cond := .code yX0_delete cX0_delete 4 (some .int) :: ((wsX0_delete_r1 ++ (wsX0_delete_r2 ++ (wsX0_delete_r3 ++ wsX0_delete_r4))) ++ wsX00 ++ (vx_atS RX0 130 "java/lang/IndexOutOfBoundsException" ["java/lang/RuntimeException", "java/lang/Exception"]).filter goodWord ++ (vx_atS RX0 142 "java/lang/IllegalStateException" ["java/lang/RuntimeException", "java/lang/Exception"]).filter goodWord)
def wsJ13_bitCount_95d88 : List Cond := .code yJ13_bitCount_95d88 cJ13_bitCount_95d88 2 (some .int) :: ([.constantLong RJ13 314 (6148914691236517205), .constantLong RJ13 316 (3689348814741910323), .constantLong RJ13 318 (1085102592571150095)])
def wsX0_addKnown : List Cond := .code yX0_addKnown cX0_addKnown 5 (some .int) :: ([.fieldLink RX0 33 "EditGraph" "knownSets" "[J", .constantLong RX0 112 (-1), .methodLink RX0 114 yJ13_bitCount_95d88, .static yJ13_bitCount_95d88, .initialized RJ13, .code yJ13_bitCount_95d88 cJ13_bitCount_95d88 2 (some .int), .constantLong RJ13 314 (6148914691236517205), .constantLong RJ13 316 (3689348814741910323), .constantLong RJ13 318 (1085102592571150095)] ++ wsX00)
def wsX0_learn : List Cond := .code yX0_learn cX0_learn 3 (some .int) :: ([.fieldLink RX0 33 "EditGraph" "knownSets" "[J", .methodLink RX0 54 yX0_checkAuthor, .instanceMethod yX0_checkAuthor, .selects RX0 yX0_checkAuthor yX0_checkAuthor, .initialized RX0, .code yX0_checkAuthor cX0_checkAuthor 2 none, .classLink RX0 126 "java/lang/IndexOutOfBoundsException", .initialized "java/lang/IndexOutOfBoundsException", .methodLink RX0 83 yX0_addKnown, .instanceMethod yX0_addKnown, .selects RX0 yX0_addKnown yX0_addKnown, .code yX0_addKnown cX0_addKnown 5 (some .int), .constantLong RX0 112 (-1), .methodLink RX0 114 yJ13_bitCount_95d88, .static yJ13_bitCount_95d88, .initialized RJ13, .code yJ13_bitCount_95d88 cJ13_bitCount_95d88 2 (some .int), .constantLong RJ13 314 (6148914691236517205), .constantLong RJ13 316 (3689348814741910323), .constantLong RJ13 318 (1085102592571150095)] ++ wsX00 ++ (vx_atS RX0 130 "java/lang/IndexOutOfBoundsException" ["java/lang/RuntimeException", "java/lang/Exception"]).filter goodWord)
def wsX0_checkEvent : List Cond := .code yX0_checkEvent cX0_checkEvent 2 none :: ([.classLink RX0 126 "java/lang/IndexOutOfBoundsException", .initialized "java/lang/IndexOutOfBoundsException", .methodLink RX0 131 yX0_isEvent, .instanceMethod yX0_isEvent, .selects RX0 yX0_isEvent yX0_isEvent, .initialized RX0, .code yX0_isEvent cX0_isEvent 2 (some .boolean), .fieldLink RX0 7 "EditGraph" "eventCount" "I"] ++ wsX00 ++ (vx_atS RX0 130 "java/lang/IndexOutOfBoundsException" ["java/lang/RuntimeException", "java/lang/Exception"]).filter goodWord)
def wsX0_versionOfEvent : List Cond := .code yX0_versionOfEvent cX0_versionOfEvent 2 (some .long) :: ([.fieldLink RX0 27 "EditGraph" "ancestorSets" "[J", .methodLink RX0 143 yX0_only, .static yX0_only, .initialized RX0, .code yX0_only cX0_only 1 (some .long)] ++ wsX00)
def wsX0_learnEvent_r1 : List Cond := [Cond.methodLink RX0 54 yX0_checkAuthor, Cond.instanceMethod yX0_checkAuthor, Cond.selects RX0 yX0_checkAuthor yX0_checkAuthor, Cond.initialized RX0, Cond.code yX0_checkAuthor cX0_checkAuthor 2 none, Cond.classLink RX0 126 "java/lang/IndexOutOfBoundsException", Cond.initialized "java/lang/IndexOutOfBoundsException", Cond.methodLink RX0 87 yX0_checkEvent, Cond.instanceMethod yX0_checkEvent, Cond.selects RX0 yX0_checkEvent yX0_checkEvent, Cond.code yX0_checkEvent cX0_checkEvent 2 none, Cond.methodLink RX0 131 yX0_isEvent, Cond.instanceMethod yX0_isEvent, Cond.selects RX0 yX0_isEvent yX0_isEvent, Cond.code yX0_isEvent cX0_isEvent 2 (some .boolean), Cond.fieldLink RX0 7 "EditGraph" "eventCount" "I", Cond.methodLink RX0 90 yX0_versionOfEvent, Cond.instanceMethod yX0_versionOfEvent, Cond.selects RX0 yX0_versionOfEvent yX0_versionOfEvent, Cond.code yX0_versionOfEvent cX0_versionOfEvent 2 (some .long), Cond.fieldLink RX0 27 "EditGraph" "ancestorSets" "[J", Cond.methodLink RX0 143 yX0_only, Cond.static yX0_only, Cond.code yX0_only cX0_only 1 (some .long)]
def wsX0_learnEvent_r2 : List Cond := [Cond.methodLink RX0 83 yX0_addKnown, Cond.instanceMethod yX0_addKnown, Cond.selects RX0 yX0_addKnown yX0_addKnown, Cond.code yX0_addKnown cX0_addKnown 5 (some .int), Cond.fieldLink RX0 33 "EditGraph" "knownSets" "[J", Cond.constantLong RX0 112 (-1), Cond.methodLink RX0 114 yJ13_bitCount_95d88, Cond.static yJ13_bitCount_95d88, Cond.initialized RJ13, Cond.code yJ13_bitCount_95d88 cJ13_bitCount_95d88 2 (some .int), Cond.constantLong RJ13 314 (6148914691236517205), Cond.constantLong RJ13 316 (3689348814741910323), Cond.constantLong RJ13 318 (1085102592571150095)]
def wsX0_learnEvent : List Cond := .code yX0_learnEvent cX0_learnEvent 3 (some .int) :: ((wsX0_learnEvent_r1 ++ wsX0_learnEvent_r2) ++ wsX00 ++ (vx_atS RX0 130 "java/lang/IndexOutOfBoundsException" ["java/lang/RuntimeException", "java/lang/Exception"]).filter goodWord)
def wsX0_events : List Cond := .code yX0_events cX0_events 1 (some .int) :: ([.fieldLink RX0 7 "EditGraph" "eventCount" "I"] ++ wsX00)
def wsX0_length_r1 : List Cond := [Cond.fieldLink RX0 33 "EditGraph" "knownSets" "[J", Cond.methodLink RX0 54 yX0_checkAuthor, Cond.instanceMethod yX0_checkAuthor, Cond.selects RX0 yX0_checkAuthor yX0_checkAuthor, Cond.initialized RX0, Cond.code yX0_checkAuthor cX0_checkAuthor 2 none, Cond.classLink RX0 126 "java/lang/IndexOutOfBoundsException", Cond.initialized "java/lang/IndexOutOfBoundsException", Cond.methodLink RX0 58 yX0_findText, Cond.instanceMethod yX0_findText, Cond.selects RX0 yX0_findText yX0_findText, Cond.code yX0_findText cX0_findText 9 (some .int), Cond.fieldLink RX0 36 "EditGraph" "firstAtBeginning" "I", Cond.fieldLink RX0 48 "EditGraph" "waiting" "[I", Cond.fieldLink RX0 42 "EditGraph" "nextBeside" "[I", Cond.fieldLink RX0 39 "EditGraph" "firstHanging" "[I", Cond.methodLink RX0 153 yX0_standingIn, Cond.instanceMethod yX0_standingIn, Cond.selects RX0 yX0_standingIn yX0_standingIn, Cond.code yX0_standingIn cX0_standingIn 8 (some .long), Cond.fieldLink RX0 7 "EditGraph" "eventCount" "I", Cond.fieldLink RX0 20 "EditGraph" "targets" "[I", Cond.constantLong RX0 112 (-1), Cond.methodLink RX0 101 yX0_has]
def wsX0_length_r2 : List Cond := [Cond.static yX0_has, Cond.code yX0_has cX0_has 3 (some .boolean), Cond.methodLink RX0 143 yX0_only, Cond.static yX0_only, Cond.code yX0_only cX0_only 1 (some .long), Cond.methodLink RX0 146 yX0_isInsert, Cond.instanceMethod yX0_isInsert, Cond.selects RX0 yX0_isInsert yX0_isInsert, Cond.code yX0_isInsert cX0_isInsert 2 (some .boolean), Cond.fieldLink RX0 17 "EditGraph" "letters" "[I", Cond.methodLink RX0 156 yX0_putWaiting, Cond.instanceMethod yX0_putWaiting, Cond.selects RX0 yX0_putWaiting yX0_putWaiting, Cond.code yX0_putWaiting cX0_putWaiting 3 (some .int), Cond.methodLink RX0 131 yX0_isEvent, Cond.instanceMethod yX0_isEvent, Cond.selects RX0 yX0_isEvent yX0_isEvent, Cond.code yX0_isEvent cX0_isEvent 2 (some .boolean), Cond.methodLink RX0 160 yX0_putText, Cond.instanceMethod yX0_putText, Cond.selects RX0 yX0_putText yX0_putText, Cond.code yX0_putText cX0_putText 5 (some .int), Cond.fieldLink RX0 45 "EditGraph" "textEvents" "[I"]
def wsX0_length : List Cond := .code yX0_length cX0_length 2 (some .int) :: ((wsX0_length_r1 ++ wsX0_length_r2) ++ wsX00 ++ (vx_atS RX0 130 "java/lang/IndexOutOfBoundsException" ["java/lang/RuntimeException", "java/lang/Exception"]).filter goodWord)
def wsX0_eventInText_r1 : List Cond := [Cond.fieldLink RX0 45 "EditGraph" "textEvents" "[I", Cond.methodLink RX0 58 yX0_findText, Cond.instanceMethod yX0_findText, Cond.selects RX0 yX0_findText yX0_findText, Cond.initialized RX0, Cond.code yX0_findText cX0_findText 9 (some .int), Cond.fieldLink RX0 36 "EditGraph" "firstAtBeginning" "I", Cond.fieldLink RX0 48 "EditGraph" "waiting" "[I", Cond.fieldLink RX0 42 "EditGraph" "nextBeside" "[I", Cond.fieldLink RX0 39 "EditGraph" "firstHanging" "[I", Cond.methodLink RX0 153 yX0_standingIn, Cond.instanceMethod yX0_standingIn, Cond.selects RX0 yX0_standingIn yX0_standingIn, Cond.code yX0_standingIn cX0_standingIn 8 (some .long), Cond.fieldLink RX0 7 "EditGraph" "eventCount" "I", Cond.fieldLink RX0 20 "EditGraph" "targets" "[I", Cond.constantLong RX0 112 (-1), Cond.methodLink RX0 101 yX0_has, Cond.static yX0_has, Cond.code yX0_has cX0_has 3 (some .boolean), Cond.methodLink RX0 143 yX0_only, Cond.static yX0_only, Cond.code yX0_only cX0_only 1 (some .long), Cond.methodLink RX0 146 yX0_isInsert]
def wsX0_eventInText_r2 : List Cond := [Cond.instanceMethod yX0_isInsert, Cond.selects RX0 yX0_isInsert yX0_isInsert, Cond.code yX0_isInsert cX0_isInsert 2 (some .boolean), Cond.fieldLink RX0 17 "EditGraph" "letters" "[I", Cond.methodLink RX0 156 yX0_putWaiting, Cond.instanceMethod yX0_putWaiting, Cond.selects RX0 yX0_putWaiting yX0_putWaiting, Cond.code yX0_putWaiting cX0_putWaiting 3 (some .int), Cond.methodLink RX0 131 yX0_isEvent, Cond.instanceMethod yX0_isEvent, Cond.selects RX0 yX0_isEvent yX0_isEvent, Cond.code yX0_isEvent cX0_isEvent 2 (some .boolean), Cond.methodLink RX0 160 yX0_putText, Cond.instanceMethod yX0_putText, Cond.selects RX0 yX0_putText yX0_putText, Cond.code yX0_putText cX0_putText 5 (some .int), Cond.methodLink RX0 62 yX0_checkPlace, Cond.instanceMethod yX0_checkPlace, Cond.selects RX0 yX0_checkPlace yX0_checkPlace, Cond.code yX0_checkPlace cX0_checkPlace 3 none, Cond.classLink RX0 126 "java/lang/IndexOutOfBoundsException", Cond.initialized "java/lang/IndexOutOfBoundsException"]
def wsX0_eventInText : List Cond := .code yX0_eventInText cX0_eventInText 5 (some .int) :: ((wsX0_eventInText_r1 ++ wsX0_eventInText_r2) ++ wsX00 ++ (vx_atS RX0 130 "java/lang/IndexOutOfBoundsException" ["java/lang/RuntimeException", "java/lang/Exception"]).filter goodWord)
def wsX0_letterAt_r1 : List Cond := [Cond.fieldLink RX0 17 "EditGraph" "letters" "[I", Cond.fieldLink RX0 33 "EditGraph" "knownSets" "[J", Cond.methodLink RX0 54 yX0_checkAuthor, Cond.instanceMethod yX0_checkAuthor, Cond.selects RX0 yX0_checkAuthor yX0_checkAuthor, Cond.initialized RX0, Cond.code yX0_checkAuthor cX0_checkAuthor 2 none, Cond.classLink RX0 126 "java/lang/IndexOutOfBoundsException", Cond.initialized "java/lang/IndexOutOfBoundsException", Cond.methodLink RX0 94 yX0_eventInText, Cond.instanceMethod yX0_eventInText, Cond.selects RX0 yX0_eventInText yX0_eventInText, Cond.code yX0_eventInText cX0_eventInText 5 (some .int), Cond.fieldLink RX0 45 "EditGraph" "textEvents" "[I", Cond.methodLink RX0 58 yX0_findText, Cond.instanceMethod yX0_findText, Cond.selects RX0 yX0_findText yX0_findText, Cond.code yX0_findText cX0_findText 9 (some .int), Cond.fieldLink RX0 36 "EditGraph" "firstAtBeginning" "I", Cond.fieldLink RX0 48 "EditGraph" "waiting" "[I", Cond.fieldLink RX0 42 "EditGraph" "nextBeside" "[I", Cond.fieldLink RX0 39 "EditGraph" "firstHanging" "[I", Cond.methodLink RX0 153 yX0_standingIn, Cond.instanceMethod yX0_standingIn]
def wsX0_letterAt_r2 : List Cond := [Cond.selects RX0 yX0_standingIn yX0_standingIn, Cond.code yX0_standingIn cX0_standingIn 8 (some .long), Cond.fieldLink RX0 7 "EditGraph" "eventCount" "I", Cond.fieldLink RX0 20 "EditGraph" "targets" "[I", Cond.constantLong RX0 112 (-1), Cond.methodLink RX0 101 yX0_has, Cond.static yX0_has, Cond.code yX0_has cX0_has 3 (some .boolean), Cond.methodLink RX0 143 yX0_only, Cond.static yX0_only, Cond.code yX0_only cX0_only 1 (some .long), Cond.methodLink RX0 146 yX0_isInsert, Cond.instanceMethod yX0_isInsert, Cond.selects RX0 yX0_isInsert yX0_isInsert, Cond.code yX0_isInsert cX0_isInsert 2 (some .boolean), Cond.methodLink RX0 156 yX0_putWaiting, Cond.instanceMethod yX0_putWaiting, Cond.selects RX0 yX0_putWaiting yX0_putWaiting, Cond.code yX0_putWaiting cX0_putWaiting 3 (some .int), Cond.methodLink RX0 131 yX0_isEvent, Cond.instanceMethod yX0_isEvent, Cond.selects RX0 yX0_isEvent yX0_isEvent, Cond.code yX0_isEvent cX0_isEvent 2 (some .boolean), Cond.methodLink RX0 160 yX0_putText]
def wsX0_letterAt_r3 : List Cond := [Cond.instanceMethod yX0_putText, Cond.selects RX0 yX0_putText yX0_putText, Cond.code yX0_putText cX0_putText 5 (some .int), Cond.methodLink RX0 62 yX0_checkPlace, Cond.instanceMethod yX0_checkPlace, Cond.selects RX0 yX0_checkPlace yX0_checkPlace, Cond.code yX0_checkPlace cX0_checkPlace 3 none]
def wsX0_letterAt : List Cond := .code yX0_letterAt cX0_letterAt 3 (some .int) :: ((wsX0_letterAt_r1 ++ (wsX0_letterAt_r2 ++ wsX0_letterAt_r3)) ++ wsX00 ++ (vx_atS RX0 130 "java/lang/IndexOutOfBoundsException" ["java/lang/RuntimeException", "java/lang/Exception"]).filter goodWord)
def wsX0_layList : List Cond := .code yX0_layList cX0_layList 6 (some .int) :: ([.fieldLink RX0 7 "EditGraph" "eventCount" "I", .fieldLink RX0 20 "EditGraph" "targets" "[I", .fieldLink RX0 51 "EditGraph" "behind" "[I", .methodLink RX0 101 yX0_has, .static yX0_has, .initialized RX0, .code yX0_has cX0_has 3 (some .boolean), .methodLink RX0 143 yX0_only, .static yX0_only, .code yX0_only cX0_only 1 (some .long), .methodLink RX0 146 yX0_isInsert, .instanceMethod yX0_isInsert, .selects RX0 yX0_isInsert yX0_isInsert, .code yX0_isInsert cX0_isInsert 2 (some .boolean), .fieldLink RX0 17 "EditGraph" "letters" "[I", .methodLink RX0 131 yX0_isEvent, .instanceMethod yX0_isEvent, .selects RX0 yX0_isEvent yX0_isEvent, .code yX0_isEvent cX0_isEvent 2 (some .boolean)] ++ wsX00)
def wsX0_findTextByList_r1 : List Cond := [Cond.fieldLink RX0 51 "EditGraph" "behind" "[I", Cond.methodLink RX0 153 yX0_standingIn, Cond.instanceMethod yX0_standingIn, Cond.selects RX0 yX0_standingIn yX0_standingIn, Cond.initialized RX0, Cond.code yX0_standingIn cX0_standingIn 8 (some .long), Cond.fieldLink RX0 7 "EditGraph" "eventCount" "I", Cond.fieldLink RX0 20 "EditGraph" "targets" "[I", Cond.constantLong RX0 112 (-1), Cond.methodLink RX0 101 yX0_has, Cond.static yX0_has, Cond.code yX0_has cX0_has 3 (some .boolean), Cond.methodLink RX0 143 yX0_only, Cond.static yX0_only, Cond.code yX0_only cX0_only 1 (some .long), Cond.methodLink RX0 146 yX0_isInsert, Cond.instanceMethod yX0_isInsert, Cond.selects RX0 yX0_isInsert yX0_isInsert, Cond.code yX0_isInsert cX0_isInsert 2 (some .boolean), Cond.fieldLink RX0 17 "EditGraph" "letters" "[I", Cond.methodLink RX0 164 yX0_layList, Cond.instanceMethod yX0_layList, Cond.selects RX0 yX0_layList yX0_layList, Cond.code yX0_layList cX0_layList 6 (some .int)]
def wsX0_findTextByList_r2 : List Cond := [Cond.methodLink RX0 131 yX0_isEvent, Cond.instanceMethod yX0_isEvent, Cond.selects RX0 yX0_isEvent yX0_isEvent, Cond.code yX0_isEvent cX0_isEvent 2 (some .boolean), Cond.methodLink RX0 160 yX0_putText, Cond.instanceMethod yX0_putText, Cond.selects RX0 yX0_putText yX0_putText, Cond.code yX0_putText cX0_putText 5 (some .int), Cond.fieldLink RX0 45 "EditGraph" "textEvents" "[I"]
def wsX0_findTextByList : List Cond := .code yX0_findTextByList cX0_findTextByList 8 (some .int) :: ((wsX0_findTextByList_r1 ++ wsX0_findTextByList_r2) ++ wsX00)
def wsX0_letterByList_r1 : List Cond := [Cond.fieldLink RX0 33 "EditGraph" "knownSets" "[J", Cond.fieldLink RX0 17 "EditGraph" "letters" "[I", Cond.fieldLink RX0 45 "EditGraph" "textEvents" "[I", Cond.methodLink RX0 54 yX0_checkAuthor, Cond.instanceMethod yX0_checkAuthor, Cond.selects RX0 yX0_checkAuthor yX0_checkAuthor, Cond.initialized RX0, Cond.code yX0_checkAuthor cX0_checkAuthor 2 none, Cond.classLink RX0 126 "java/lang/IndexOutOfBoundsException", Cond.initialized "java/lang/IndexOutOfBoundsException", Cond.methodLink RX0 98 yX0_findTextByList, Cond.instanceMethod yX0_findTextByList, Cond.selects RX0 yX0_findTextByList yX0_findTextByList, Cond.code yX0_findTextByList cX0_findTextByList 8 (some .int), Cond.fieldLink RX0 51 "EditGraph" "behind" "[I", Cond.methodLink RX0 153 yX0_standingIn, Cond.instanceMethod yX0_standingIn, Cond.selects RX0 yX0_standingIn yX0_standingIn, Cond.code yX0_standingIn cX0_standingIn 8 (some .long), Cond.fieldLink RX0 7 "EditGraph" "eventCount" "I", Cond.fieldLink RX0 20 "EditGraph" "targets" "[I", Cond.constantLong RX0 112 (-1), Cond.methodLink RX0 101 yX0_has, Cond.static yX0_has]
def wsX0_letterByList_r2 : List Cond := [Cond.code yX0_has cX0_has 3 (some .boolean), Cond.methodLink RX0 143 yX0_only, Cond.static yX0_only, Cond.code yX0_only cX0_only 1 (some .long), Cond.methodLink RX0 146 yX0_isInsert, Cond.instanceMethod yX0_isInsert, Cond.selects RX0 yX0_isInsert yX0_isInsert, Cond.code yX0_isInsert cX0_isInsert 2 (some .boolean), Cond.methodLink RX0 164 yX0_layList, Cond.instanceMethod yX0_layList, Cond.selects RX0 yX0_layList yX0_layList, Cond.code yX0_layList cX0_layList 6 (some .int), Cond.methodLink RX0 131 yX0_isEvent, Cond.instanceMethod yX0_isEvent, Cond.selects RX0 yX0_isEvent yX0_isEvent, Cond.code yX0_isEvent cX0_isEvent 2 (some .boolean), Cond.methodLink RX0 160 yX0_putText, Cond.instanceMethod yX0_putText, Cond.selects RX0 yX0_putText yX0_putText, Cond.code yX0_putText cX0_putText 5 (some .int), Cond.methodLink RX0 62 yX0_checkPlace, Cond.instanceMethod yX0_checkPlace, Cond.selects RX0 yX0_checkPlace yX0_checkPlace, Cond.code yX0_checkPlace cX0_checkPlace 3 none]
def wsX0_letterByList : List Cond := .code yX0_letterByList cX0_letterByList 4 (some .int) :: ((wsX0_letterByList_r1 ++ wsX0_letterByList_r2) ++ wsX00 ++ (vx_atS RX0 130 "java/lang/IndexOutOfBoundsException" ["java/lang/RuntimeException", "java/lang/Exception"]).filter goodWord)
def wsX0_eventAt_r1 : List Cond := [Cond.fieldLink RX0 33 "EditGraph" "knownSets" "[J", Cond.methodLink RX0 54 yX0_checkAuthor, Cond.instanceMethod yX0_checkAuthor, Cond.selects RX0 yX0_checkAuthor yX0_checkAuthor, Cond.initialized RX0, Cond.code yX0_checkAuthor cX0_checkAuthor 2 none, Cond.classLink RX0 126 "java/lang/IndexOutOfBoundsException", Cond.initialized "java/lang/IndexOutOfBoundsException", Cond.methodLink RX0 94 yX0_eventInText, Cond.instanceMethod yX0_eventInText, Cond.selects RX0 yX0_eventInText yX0_eventInText, Cond.code yX0_eventInText cX0_eventInText 5 (some .int), Cond.fieldLink RX0 45 "EditGraph" "textEvents" "[I", Cond.methodLink RX0 58 yX0_findText, Cond.instanceMethod yX0_findText, Cond.selects RX0 yX0_findText yX0_findText, Cond.code yX0_findText cX0_findText 9 (some .int), Cond.fieldLink RX0 36 "EditGraph" "firstAtBeginning" "I", Cond.fieldLink RX0 48 "EditGraph" "waiting" "[I", Cond.fieldLink RX0 42 "EditGraph" "nextBeside" "[I", Cond.fieldLink RX0 39 "EditGraph" "firstHanging" "[I", Cond.methodLink RX0 153 yX0_standingIn, Cond.instanceMethod yX0_standingIn, Cond.selects RX0 yX0_standingIn yX0_standingIn]
def wsX0_eventAt_r2 : List Cond := [Cond.code yX0_standingIn cX0_standingIn 8 (some .long), Cond.fieldLink RX0 7 "EditGraph" "eventCount" "I", Cond.fieldLink RX0 20 "EditGraph" "targets" "[I", Cond.constantLong RX0 112 (-1), Cond.methodLink RX0 101 yX0_has, Cond.static yX0_has, Cond.code yX0_has cX0_has 3 (some .boolean), Cond.methodLink RX0 143 yX0_only, Cond.static yX0_only, Cond.code yX0_only cX0_only 1 (some .long), Cond.methodLink RX0 146 yX0_isInsert, Cond.instanceMethod yX0_isInsert, Cond.selects RX0 yX0_isInsert yX0_isInsert, Cond.code yX0_isInsert cX0_isInsert 2 (some .boolean), Cond.fieldLink RX0 17 "EditGraph" "letters" "[I", Cond.methodLink RX0 156 yX0_putWaiting, Cond.instanceMethod yX0_putWaiting, Cond.selects RX0 yX0_putWaiting yX0_putWaiting, Cond.code yX0_putWaiting cX0_putWaiting 3 (some .int), Cond.methodLink RX0 131 yX0_isEvent, Cond.instanceMethod yX0_isEvent, Cond.selects RX0 yX0_isEvent yX0_isEvent, Cond.code yX0_isEvent cX0_isEvent 2 (some .boolean), Cond.methodLink RX0 160 yX0_putText]
def wsX0_eventAt_r3 : List Cond := [Cond.instanceMethod yX0_putText, Cond.selects RX0 yX0_putText yX0_putText, Cond.code yX0_putText cX0_putText 5 (some .int), Cond.methodLink RX0 62 yX0_checkPlace, Cond.instanceMethod yX0_checkPlace, Cond.selects RX0 yX0_checkPlace yX0_checkPlace, Cond.code yX0_checkPlace cX0_checkPlace 3 none]
def wsX0_eventAt : List Cond := .code yX0_eventAt cX0_eventAt 3 (some .int) :: ((wsX0_eventAt_r1 ++ (wsX0_eventAt_r2 ++ wsX0_eventAt_r3)) ++ wsX00 ++ (vx_atS RX0 130 "java/lang/IndexOutOfBoundsException" ["java/lang/RuntimeException", "java/lang/Exception"]).filter goodWord)
def wsX0_lengthOf_r1 : List Cond := [Cond.methodLink RX0 87 yX0_checkEvent, Cond.instanceMethod yX0_checkEvent, Cond.selects RX0 yX0_checkEvent yX0_checkEvent, Cond.initialized RX0, Cond.code yX0_checkEvent cX0_checkEvent 2 none, Cond.classLink RX0 126 "java/lang/IndexOutOfBoundsException", Cond.initialized "java/lang/IndexOutOfBoundsException", Cond.methodLink RX0 131 yX0_isEvent, Cond.instanceMethod yX0_isEvent, Cond.selects RX0 yX0_isEvent yX0_isEvent, Cond.code yX0_isEvent cX0_isEvent 2 (some .boolean), Cond.fieldLink RX0 7 "EditGraph" "eventCount" "I", Cond.methodLink RX0 90 yX0_versionOfEvent, Cond.instanceMethod yX0_versionOfEvent, Cond.selects RX0 yX0_versionOfEvent yX0_versionOfEvent, Cond.code yX0_versionOfEvent cX0_versionOfEvent 2 (some .long), Cond.fieldLink RX0 27 "EditGraph" "ancestorSets" "[J", Cond.methodLink RX0 143 yX0_only, Cond.static yX0_only, Cond.code yX0_only cX0_only 1 (some .long), Cond.methodLink RX0 58 yX0_findText, Cond.instanceMethod yX0_findText, Cond.selects RX0 yX0_findText yX0_findText, Cond.code yX0_findText cX0_findText 9 (some .int)]
def wsX0_lengthOf_r2 : List Cond := [Cond.fieldLink RX0 36 "EditGraph" "firstAtBeginning" "I", Cond.fieldLink RX0 48 "EditGraph" "waiting" "[I", Cond.fieldLink RX0 42 "EditGraph" "nextBeside" "[I", Cond.fieldLink RX0 39 "EditGraph" "firstHanging" "[I", Cond.methodLink RX0 153 yX0_standingIn, Cond.instanceMethod yX0_standingIn, Cond.selects RX0 yX0_standingIn yX0_standingIn, Cond.code yX0_standingIn cX0_standingIn 8 (some .long), Cond.fieldLink RX0 20 "EditGraph" "targets" "[I", Cond.constantLong RX0 112 (-1), Cond.methodLink RX0 101 yX0_has, Cond.static yX0_has, Cond.code yX0_has cX0_has 3 (some .boolean), Cond.methodLink RX0 146 yX0_isInsert, Cond.instanceMethod yX0_isInsert, Cond.selects RX0 yX0_isInsert yX0_isInsert, Cond.code yX0_isInsert cX0_isInsert 2 (some .boolean), Cond.fieldLink RX0 17 "EditGraph" "letters" "[I", Cond.methodLink RX0 156 yX0_putWaiting, Cond.instanceMethod yX0_putWaiting, Cond.selects RX0 yX0_putWaiting yX0_putWaiting, Cond.code yX0_putWaiting cX0_putWaiting 3 (some .int), Cond.methodLink RX0 160 yX0_putText, Cond.instanceMethod yX0_putText]
def wsX0_lengthOf_r3 : List Cond := [Cond.selects RX0 yX0_putText yX0_putText, Cond.code yX0_putText cX0_putText 5 (some .int), Cond.fieldLink RX0 45 "EditGraph" "textEvents" "[I"]
def wsX0_lengthOf : List Cond := .code yX0_lengthOf cX0_lengthOf 2 (some .int) :: ((wsX0_lengthOf_r1 ++ (wsX0_lengthOf_r2 ++ wsX0_lengthOf_r3)) ++ wsX00 ++ (vx_atS RX0 130 "java/lang/IndexOutOfBoundsException" ["java/lang/RuntimeException", "java/lang/Exception"]).filter goodWord)
def wsX0_letterOf_r1 : List Cond := [Cond.fieldLink RX0 17 "EditGraph" "letters" "[I", Cond.methodLink RX0 87 yX0_checkEvent, Cond.instanceMethod yX0_checkEvent, Cond.selects RX0 yX0_checkEvent yX0_checkEvent, Cond.initialized RX0, Cond.code yX0_checkEvent cX0_checkEvent 2 none, Cond.classLink RX0 126 "java/lang/IndexOutOfBoundsException", Cond.initialized "java/lang/IndexOutOfBoundsException", Cond.methodLink RX0 131 yX0_isEvent, Cond.instanceMethod yX0_isEvent, Cond.selects RX0 yX0_isEvent yX0_isEvent, Cond.code yX0_isEvent cX0_isEvent 2 (some .boolean), Cond.fieldLink RX0 7 "EditGraph" "eventCount" "I", Cond.methodLink RX0 90 yX0_versionOfEvent, Cond.instanceMethod yX0_versionOfEvent, Cond.selects RX0 yX0_versionOfEvent yX0_versionOfEvent, Cond.code yX0_versionOfEvent cX0_versionOfEvent 2 (some .long), Cond.fieldLink RX0 27 "EditGraph" "ancestorSets" "[J", Cond.methodLink RX0 143 yX0_only, Cond.static yX0_only, Cond.code yX0_only cX0_only 1 (some .long), Cond.methodLink RX0 94 yX0_eventInText, Cond.instanceMethod yX0_eventInText, Cond.selects RX0 yX0_eventInText yX0_eventInText]
def wsX0_letterOf_r2 : List Cond := [Cond.code yX0_eventInText cX0_eventInText 5 (some .int), Cond.fieldLink RX0 45 "EditGraph" "textEvents" "[I", Cond.methodLink RX0 58 yX0_findText, Cond.instanceMethod yX0_findText, Cond.selects RX0 yX0_findText yX0_findText, Cond.code yX0_findText cX0_findText 9 (some .int), Cond.fieldLink RX0 36 "EditGraph" "firstAtBeginning" "I", Cond.fieldLink RX0 48 "EditGraph" "waiting" "[I", Cond.fieldLink RX0 42 "EditGraph" "nextBeside" "[I", Cond.fieldLink RX0 39 "EditGraph" "firstHanging" "[I", Cond.methodLink RX0 153 yX0_standingIn, Cond.instanceMethod yX0_standingIn, Cond.selects RX0 yX0_standingIn yX0_standingIn, Cond.code yX0_standingIn cX0_standingIn 8 (some .long), Cond.fieldLink RX0 20 "EditGraph" "targets" "[I", Cond.constantLong RX0 112 (-1), Cond.methodLink RX0 101 yX0_has, Cond.static yX0_has, Cond.code yX0_has cX0_has 3 (some .boolean), Cond.methodLink RX0 146 yX0_isInsert, Cond.instanceMethod yX0_isInsert, Cond.selects RX0 yX0_isInsert yX0_isInsert, Cond.code yX0_isInsert cX0_isInsert 2 (some .boolean), Cond.methodLink RX0 156 yX0_putWaiting]
def wsX0_letterOf_r3 : List Cond := [Cond.instanceMethod yX0_putWaiting, Cond.selects RX0 yX0_putWaiting yX0_putWaiting, Cond.code yX0_putWaiting cX0_putWaiting 3 (some .int), Cond.methodLink RX0 160 yX0_putText, Cond.instanceMethod yX0_putText, Cond.selects RX0 yX0_putText yX0_putText, Cond.code yX0_putText cX0_putText 5 (some .int), Cond.methodLink RX0 62 yX0_checkPlace, Cond.instanceMethod yX0_checkPlace, Cond.selects RX0 yX0_checkPlace yX0_checkPlace, Cond.code yX0_checkPlace cX0_checkPlace 3 none]
def wsX0_letterOf : List Cond := .code yX0_letterOf cX0_letterOf 3 (some .int) :: ((wsX0_letterOf_r1 ++ (wsX0_letterOf_r2 ++ wsX0_letterOf_r3)) ++ wsX00 ++ (vx_atS RX0 130 "java/lang/IndexOutOfBoundsException" ["java/lang/RuntimeException", "java/lang/Exception"]).filter goodWord)
def wsX0_lettersBy_r1 : List Cond := [Cond.fieldLink RX0 33 "EditGraph" "knownSets" "[J", Cond.fieldLink RX0 13 "EditGraph" "makers" "[I", Cond.fieldLink RX0 45 "EditGraph" "textEvents" "[I", Cond.methodLink RX0 54 yX0_checkAuthor, Cond.instanceMethod yX0_checkAuthor, Cond.selects RX0 yX0_checkAuthor yX0_checkAuthor, Cond.initialized RX0, Cond.code yX0_checkAuthor cX0_checkAuthor 2 none, Cond.classLink RX0 126 "java/lang/IndexOutOfBoundsException", Cond.initialized "java/lang/IndexOutOfBoundsException", Cond.methodLink RX0 58 yX0_findText, Cond.instanceMethod yX0_findText, Cond.selects RX0 yX0_findText yX0_findText, Cond.code yX0_findText cX0_findText 9 (some .int), Cond.fieldLink RX0 36 "EditGraph" "firstAtBeginning" "I", Cond.fieldLink RX0 48 "EditGraph" "waiting" "[I", Cond.fieldLink RX0 42 "EditGraph" "nextBeside" "[I", Cond.fieldLink RX0 39 "EditGraph" "firstHanging" "[I", Cond.methodLink RX0 153 yX0_standingIn, Cond.instanceMethod yX0_standingIn, Cond.selects RX0 yX0_standingIn yX0_standingIn, Cond.code yX0_standingIn cX0_standingIn 8 (some .long), Cond.fieldLink RX0 7 "EditGraph" "eventCount" "I", Cond.fieldLink RX0 20 "EditGraph" "targets" "[I"]
def wsX0_lettersBy_r2 : List Cond := [Cond.constantLong RX0 112 (-1), Cond.methodLink RX0 101 yX0_has, Cond.static yX0_has, Cond.code yX0_has cX0_has 3 (some .boolean), Cond.methodLink RX0 143 yX0_only, Cond.static yX0_only, Cond.code yX0_only cX0_only 1 (some .long), Cond.methodLink RX0 146 yX0_isInsert, Cond.instanceMethod yX0_isInsert, Cond.selects RX0 yX0_isInsert yX0_isInsert, Cond.code yX0_isInsert cX0_isInsert 2 (some .boolean), Cond.fieldLink RX0 17 "EditGraph" "letters" "[I", Cond.methodLink RX0 156 yX0_putWaiting, Cond.instanceMethod yX0_putWaiting, Cond.selects RX0 yX0_putWaiting yX0_putWaiting, Cond.code yX0_putWaiting cX0_putWaiting 3 (some .int), Cond.methodLink RX0 131 yX0_isEvent, Cond.instanceMethod yX0_isEvent, Cond.selects RX0 yX0_isEvent yX0_isEvent, Cond.code yX0_isEvent cX0_isEvent 2 (some .boolean), Cond.methodLink RX0 160 yX0_putText, Cond.instanceMethod yX0_putText, Cond.selects RX0 yX0_putText yX0_putText, Cond.code yX0_putText cX0_putText 5 (some .int)]
def wsX0_lettersBy : List Cond := .code yX0_lettersBy cX0_lettersBy 6 (some .int) :: ((wsX0_lettersBy_r1 ++ wsX0_lettersBy_r2) ++ wsX00 ++ (vx_atS RX0 130 "java/lang/IndexOutOfBoundsException" ["java/lang/RuntimeException", "java/lang/Exception"]).filter goodWord)
def wsX0_authorOf : List Cond := .code yX0_authorOf cX0_authorOf 2 (some .int) :: ([.fieldLink RX0 13 "EditGraph" "makers" "[I", .methodLink RX0 87 yX0_checkEvent, .instanceMethod yX0_checkEvent, .selects RX0 yX0_checkEvent yX0_checkEvent, .initialized RX0, .code yX0_checkEvent cX0_checkEvent 2 none, .classLink RX0 126 "java/lang/IndexOutOfBoundsException", .initialized "java/lang/IndexOutOfBoundsException", .methodLink RX0 131 yX0_isEvent, .instanceMethod yX0_isEvent, .selects RX0 yX0_isEvent yX0_isEvent, .code yX0_isEvent cX0_isEvent 2 (some .boolean), .fieldLink RX0 7 "EditGraph" "eventCount" "I"] ++ wsX00 ++ (vx_atS RX0 130 "java/lang/IndexOutOfBoundsException" ["java/lang/RuntimeException", "java/lang/Exception"]).filter goodWord)
def wsX0_parents : List Cond := .code yX0_parents cX0_parents 2 (some .long) :: ([.fieldLink RX0 23 "EditGraph" "parentSets" "[J", .methodLink RX0 87 yX0_checkEvent, .instanceMethod yX0_checkEvent, .selects RX0 yX0_checkEvent yX0_checkEvent, .initialized RX0, .code yX0_checkEvent cX0_checkEvent 2 none, .classLink RX0 126 "java/lang/IndexOutOfBoundsException", .initialized "java/lang/IndexOutOfBoundsException", .methodLink RX0 131 yX0_isEvent, .instanceMethod yX0_isEvent, .selects RX0 yX0_isEvent yX0_isEvent, .code yX0_isEvent cX0_isEvent 2 (some .boolean), .fieldLink RX0 7 "EditGraph" "eventCount" "I"] ++ wsX00 ++ (vx_atS RX0 130 "java/lang/IndexOutOfBoundsException" ["java/lang/RuntimeException", "java/lang/Exception"]).filter goodWord)
def wsX0_isLater : List Cond := .code yX0_isLater cX0_isLater 3 (some .boolean) :: ([.fieldLink RX0 27 "EditGraph" "ancestorSets" "[J", .methodLink RX0 87 yX0_checkEvent, .instanceMethod yX0_checkEvent, .selects RX0 yX0_checkEvent yX0_checkEvent, .initialized RX0, .code yX0_checkEvent cX0_checkEvent 2 none, .classLink RX0 126 "java/lang/IndexOutOfBoundsException", .initialized "java/lang/IndexOutOfBoundsException", .methodLink RX0 131 yX0_isEvent, .instanceMethod yX0_isEvent, .selects RX0 yX0_isEvent yX0_isEvent, .code yX0_isEvent cX0_isEvent 2 (some .boolean), .fieldLink RX0 7 "EditGraph" "eventCount" "I", .methodLink RX0 101 yX0_has, .static yX0_has, .code yX0_has cX0_has 3 (some .boolean), .methodLink RX0 143 yX0_only, .static yX0_only, .code yX0_only cX0_only 1 (some .long)] ++ wsX00 ++ (vx_atS RX0 130 "java/lang/IndexOutOfBoundsException" ["java/lang/RuntimeException", "java/lang/Exception"]).filter goodWord)
def wsX0_version : List Cond := .code yX0_version cX0_version 2 (some .long) :: ([.fieldLink RX0 33 "EditGraph" "knownSets" "[J", .methodLink RX0 54 yX0_checkAuthor, .instanceMethod yX0_checkAuthor, .selects RX0 yX0_checkAuthor yX0_checkAuthor, .initialized RX0, .code yX0_checkAuthor cX0_checkAuthor 2 none, .classLink RX0 126 "java/lang/IndexOutOfBoundsException", .initialized "java/lang/IndexOutOfBoundsException"] ++ wsX00 ++ (vx_atS RX0 130 "java/lang/IndexOutOfBoundsException" ["java/lang/RuntimeException", "java/lang/Exception"]).filter goodWord)
def wsX0_heads : List Cond := .code yX0_heads cX0_heads 2 (some .long) :: ([.fieldLink RX0 33 "EditGraph" "knownSets" "[J", .methodLink RX0 54 yX0_checkAuthor, .instanceMethod yX0_checkAuthor, .selects RX0 yX0_checkAuthor yX0_checkAuthor, .initialized RX0, .code yX0_checkAuthor cX0_checkAuthor 2 none, .classLink RX0 126 "java/lang/IndexOutOfBoundsException", .initialized "java/lang/IndexOutOfBoundsException", .methodLink RX0 105 yX0_headsOf, .instanceMethod yX0_headsOf, .selects RX0 yX0_headsOf yX0_headsOf, .code yX0_headsOf cX0_headsOf 6 (some .long), .fieldLink RX0 7 "EditGraph" "eventCount" "I", .fieldLink RX0 23 "EditGraph" "parentSets" "[J", .constantLong RX0 112 (-1), .methodLink RX0 101 yX0_has, .static yX0_has, .code yX0_has cX0_has 3 (some .boolean), .methodLink RX0 143 yX0_only, .static yX0_only, .code yX0_only cX0_only 1 (some .long)] ++ wsX00 ++ (vx_atS RX0 130 "java/lang/IndexOutOfBoundsException" ["java/lang/RuntimeException", "java/lang/Exception"]).filter goodWord)
def wsX0_commonHeads : List Cond := .code yX0_commonHeads cX0_commonHeads 3 (some .long) :: ([.fieldLink RX0 33 "EditGraph" "knownSets" "[J", .methodLink RX0 54 yX0_checkAuthor, .instanceMethod yX0_checkAuthor, .selects RX0 yX0_checkAuthor yX0_checkAuthor, .initialized RX0, .code yX0_checkAuthor cX0_checkAuthor 2 none, .classLink RX0 126 "java/lang/IndexOutOfBoundsException", .initialized "java/lang/IndexOutOfBoundsException", .methodLink RX0 105 yX0_headsOf, .instanceMethod yX0_headsOf, .selects RX0 yX0_headsOf yX0_headsOf, .code yX0_headsOf cX0_headsOf 6 (some .long), .fieldLink RX0 7 "EditGraph" "eventCount" "I", .fieldLink RX0 23 "EditGraph" "parentSets" "[J", .constantLong RX0 112 (-1), .methodLink RX0 101 yX0_has, .static yX0_has, .code yX0_has cX0_has 3 (some .boolean), .methodLink RX0 143 yX0_only, .static yX0_only, .code yX0_only cX0_only 1 (some .long)] ++ wsX00 ++ (vx_atS RX0 130 "java/lang/IndexOutOfBoundsException" ["java/lang/RuntimeException", "java/lang/Exception"]).filter goodWord)
def wsX0_relatedTo : List Cond := .code yX0_relatedTo cX0_relatedTo 2 (some .long) :: ([.fieldLink RX0 30 "EditGraph" "laterSets" "[J", .methodLink RX0 90 yX0_versionOfEvent, .instanceMethod yX0_versionOfEvent, .selects RX0 yX0_versionOfEvent yX0_versionOfEvent, .initialized RX0, .code yX0_versionOfEvent cX0_versionOfEvent 2 (some .long), .fieldLink RX0 27 "EditGraph" "ancestorSets" "[J", .methodLink RX0 143 yX0_only, .static yX0_only, .code yX0_only cX0_only 1 (some .long)] ++ wsX00)
def wsX0_concurrent_r1 : List Cond := [Cond.fieldLink RX0 33 "EditGraph" "knownSets" "[J", Cond.fieldLink RX0 7 "EditGraph" "eventCount" "I", Cond.constantLong RX0 112 (-1), Cond.methodLink RX0 54 yX0_checkAuthor, Cond.instanceMethod yX0_checkAuthor, Cond.selects RX0 yX0_checkAuthor yX0_checkAuthor, Cond.initialized RX0, Cond.code yX0_checkAuthor cX0_checkAuthor 2 none, Cond.classLink RX0 126 "java/lang/IndexOutOfBoundsException", Cond.initialized "java/lang/IndexOutOfBoundsException", Cond.methodLink RX0 101 yX0_has, Cond.static yX0_has, Cond.code yX0_has cX0_has 3 (some .boolean), Cond.methodLink RX0 143 yX0_only, Cond.static yX0_only, Cond.code yX0_only cX0_only 1 (some .long), Cond.methodLink RX0 109 yX0_relatedTo, Cond.instanceMethod yX0_relatedTo, Cond.selects RX0 yX0_relatedTo yX0_relatedTo, Cond.code yX0_relatedTo cX0_relatedTo 2 (some .long), Cond.fieldLink RX0 30 "EditGraph" "laterSets" "[J", Cond.methodLink RX0 90 yX0_versionOfEvent, Cond.instanceMethod yX0_versionOfEvent, Cond.selects RX0 yX0_versionOfEvent yX0_versionOfEvent]
def wsX0_concurrent_r2 : List Cond := [Cond.code yX0_versionOfEvent cX0_versionOfEvent 2 (some .long), Cond.fieldLink RX0 27 "EditGraph" "ancestorSets" "[J", Cond.methodLink RX0 114 yJ13_bitCount_95d88, Cond.static yJ13_bitCount_95d88, Cond.initialized RJ13, Cond.code yJ13_bitCount_95d88 cJ13_bitCount_95d88 2 (some .int), Cond.constantLong RJ13 314 (6148914691236517205), Cond.constantLong RJ13 316 (3689348814741910323), Cond.constantLong RJ13 318 (1085102592571150095)]
def wsX0_concurrent : List Cond := .code yX0_concurrent cX0_concurrent 6 (some .int) :: ((wsX0_concurrent_r1 ++ wsX0_concurrent_r2) ++ wsX00 ++ (vx_atS RX0 130 "java/lang/IndexOutOfBoundsException" ["java/lang/RuntimeException", "java/lang/Exception"]).filter goodWord)
def wsX0_criticalOf : List Cond := .code yX0_criticalOf cX0_criticalOf 6 (some .long) :: ([.fieldLink RX0 7 "EditGraph" "eventCount" "I", .constantLong RX0 112 (-1), .methodLink RX0 101 yX0_has, .static yX0_has, .initialized RX0, .code yX0_has cX0_has 3 (some .boolean), .methodLink RX0 143 yX0_only, .static yX0_only, .code yX0_only cX0_only 1 (some .long), .methodLink RX0 109 yX0_relatedTo, .instanceMethod yX0_relatedTo, .selects RX0 yX0_relatedTo yX0_relatedTo, .code yX0_relatedTo cX0_relatedTo 2 (some .long), .fieldLink RX0 30 "EditGraph" "laterSets" "[J", .methodLink RX0 90 yX0_versionOfEvent, .instanceMethod yX0_versionOfEvent, .selects RX0 yX0_versionOfEvent yX0_versionOfEvent, .code yX0_versionOfEvent cX0_versionOfEvent 2 (some .long), .fieldLink RX0 27 "EditGraph" "ancestorSets" "[J"] ++ wsX00)
def wsX0_critical_r1 : List Cond := [Cond.fieldLink RX0 33 "EditGraph" "knownSets" "[J", Cond.methodLink RX0 54 yX0_checkAuthor, Cond.instanceMethod yX0_checkAuthor, Cond.selects RX0 yX0_checkAuthor yX0_checkAuthor, Cond.initialized RX0, Cond.code yX0_checkAuthor cX0_checkAuthor 2 none, Cond.classLink RX0 126 "java/lang/IndexOutOfBoundsException", Cond.initialized "java/lang/IndexOutOfBoundsException", Cond.methodLink RX0 119 yX0_criticalOf, Cond.instanceMethod yX0_criticalOf, Cond.selects RX0 yX0_criticalOf yX0_criticalOf, Cond.code yX0_criticalOf cX0_criticalOf 6 (some .long), Cond.fieldLink RX0 7 "EditGraph" "eventCount" "I", Cond.constantLong RX0 112 (-1), Cond.methodLink RX0 101 yX0_has, Cond.static yX0_has, Cond.code yX0_has cX0_has 3 (some .boolean), Cond.methodLink RX0 143 yX0_only, Cond.static yX0_only, Cond.code yX0_only cX0_only 1 (some .long), Cond.methodLink RX0 109 yX0_relatedTo, Cond.instanceMethod yX0_relatedTo, Cond.selects RX0 yX0_relatedTo yX0_relatedTo, Cond.code yX0_relatedTo cX0_relatedTo 2 (some .long)]
def wsX0_critical_r2 : List Cond := [Cond.fieldLink RX0 30 "EditGraph" "laterSets" "[J", Cond.methodLink RX0 90 yX0_versionOfEvent, Cond.instanceMethod yX0_versionOfEvent, Cond.selects RX0 yX0_versionOfEvent yX0_versionOfEvent, Cond.code yX0_versionOfEvent cX0_versionOfEvent 2 (some .long), Cond.fieldLink RX0 27 "EditGraph" "ancestorSets" "[J"]
def wsX0_critical : List Cond := .code yX0_critical cX0_critical 2 (some .long) :: ((wsX0_critical_r1 ++ wsX0_critical_r2) ++ wsX00 ++ (vx_atS RX0 130 "java/lang/IndexOutOfBoundsException" ["java/lang/RuntimeException", "java/lang/Exception"]).filter goodWord)
def wsX0_toReplay_r1 : List Cond := [Cond.fieldLink RX0 33 "EditGraph" "knownSets" "[J", Cond.fieldLink RX0 7 "EditGraph" "eventCount" "I", Cond.constantLong RX0 112 (-1), Cond.methodLink RX0 54 yX0_checkAuthor, Cond.instanceMethod yX0_checkAuthor, Cond.selects RX0 yX0_checkAuthor yX0_checkAuthor, Cond.initialized RX0, Cond.code yX0_checkAuthor cX0_checkAuthor 2 none, Cond.classLink RX0 126 "java/lang/IndexOutOfBoundsException", Cond.initialized "java/lang/IndexOutOfBoundsException", Cond.methodLink RX0 119 yX0_criticalOf, Cond.instanceMethod yX0_criticalOf, Cond.selects RX0 yX0_criticalOf yX0_criticalOf, Cond.code yX0_criticalOf cX0_criticalOf 6 (some .long), Cond.methodLink RX0 101 yX0_has, Cond.static yX0_has, Cond.code yX0_has cX0_has 3 (some .boolean), Cond.methodLink RX0 143 yX0_only, Cond.static yX0_only, Cond.code yX0_only cX0_only 1 (some .long), Cond.methodLink RX0 109 yX0_relatedTo, Cond.instanceMethod yX0_relatedTo, Cond.selects RX0 yX0_relatedTo yX0_relatedTo, Cond.code yX0_relatedTo cX0_relatedTo 2 (some .long)]
def wsX0_toReplay_r2 : List Cond := [Cond.fieldLink RX0 30 "EditGraph" "laterSets" "[J", Cond.methodLink RX0 90 yX0_versionOfEvent, Cond.instanceMethod yX0_versionOfEvent, Cond.selects RX0 yX0_versionOfEvent yX0_versionOfEvent, Cond.code yX0_versionOfEvent cX0_versionOfEvent 2 (some .long), Cond.fieldLink RX0 27 "EditGraph" "ancestorSets" "[J", Cond.methodLink RX0 114 yJ13_bitCount_95d88, Cond.static yJ13_bitCount_95d88, Cond.initialized RJ13, Cond.code yJ13_bitCount_95d88 cJ13_bitCount_95d88 2 (some .int), Cond.constantLong RJ13 314 (6148914691236517205), Cond.constantLong RJ13 316 (3689348814741910323), Cond.constantLong RJ13 318 (1085102592571150095)]
def wsX0_toReplay : List Cond := .code yX0_toReplay cX0_toReplay 9 (some .int) :: ((wsX0_toReplay_r1 ++ wsX0_toReplay_r2) ++ wsX00 ++ (vx_atS RX0 130 "java/lang/IndexOutOfBoundsException" ["java/lang/RuntimeException", "java/lang/Exception"]).filter goodWord)
def wsX0_continuesRun : List Cond := .code yX0_continuesRun cX0_continuesRun 3 (some .boolean) :: ([.fieldLink RX0 20 "EditGraph" "targets" "[I", .fieldLink RX0 23 "EditGraph" "parentSets" "[J", .fieldLink RX0 13 "EditGraph" "makers" "[I", .methodLink RX0 146 yX0_isInsert, .instanceMethod yX0_isInsert, .selects RX0 yX0_isInsert yX0_isInsert, .initialized RX0, .code yX0_isInsert cX0_isInsert 2 (some .boolean), .fieldLink RX0 17 "EditGraph" "letters" "[I", .methodLink RX0 131 yX0_isEvent, .instanceMethod yX0_isEvent, .selects RX0 yX0_isEvent yX0_isEvent, .code yX0_isEvent cX0_isEvent 2 (some .boolean), .fieldLink RX0 7 "EditGraph" "eventCount" "I", .methodLink RX0 143 yX0_only, .static yX0_only, .code yX0_only cX0_only 1 (some .long)] ++ wsX00)
def wsX0_runs_r1 : List Cond := [Cond.fieldLink RX0 33 "EditGraph" "knownSets" "[J", Cond.fieldLink RX0 7 "EditGraph" "eventCount" "I", Cond.methodLink RX0 54 yX0_checkAuthor, Cond.instanceMethod yX0_checkAuthor, Cond.selects RX0 yX0_checkAuthor yX0_checkAuthor, Cond.initialized RX0, Cond.code yX0_checkAuthor cX0_checkAuthor 2 none, Cond.classLink RX0 126 "java/lang/IndexOutOfBoundsException", Cond.initialized "java/lang/IndexOutOfBoundsException", Cond.methodLink RX0 101 yX0_has, Cond.static yX0_has, Cond.code yX0_has cX0_has 3 (some .boolean), Cond.methodLink RX0 143 yX0_only, Cond.static yX0_only, Cond.code yX0_only cX0_only 1 (some .long), Cond.methodLink RX0 122 yX0_continuesRun, Cond.instanceMethod yX0_continuesRun, Cond.selects RX0 yX0_continuesRun yX0_continuesRun, Cond.code yX0_continuesRun cX0_continuesRun 3 (some .boolean), Cond.fieldLink RX0 20 "EditGraph" "targets" "[I", Cond.fieldLink RX0 23 "EditGraph" "parentSets" "[J", Cond.fieldLink RX0 13 "EditGraph" "makers" "[I", Cond.methodLink RX0 146 yX0_isInsert, Cond.instanceMethod yX0_isInsert]
def wsX0_runs_r2 : List Cond := [Cond.selects RX0 yX0_isInsert yX0_isInsert, Cond.code yX0_isInsert cX0_isInsert 2 (some .boolean), Cond.fieldLink RX0 17 "EditGraph" "letters" "[I", Cond.methodLink RX0 131 yX0_isEvent, Cond.instanceMethod yX0_isEvent, Cond.selects RX0 yX0_isEvent yX0_isEvent, Cond.code yX0_isEvent cX0_isEvent 2 (some .boolean)]
def wsX0_runs : List Cond := .code yX0_runs cX0_runs 6 (some .int) :: ((wsX0_runs_r1 ++ wsX0_runs_r2) ++ wsX00 ++ (vx_atS RX0 130 "java/lang/IndexOutOfBoundsException" ["java/lang/RuntimeException", "java/lang/Exception"]).filter goodWord)
def wsL_drawn : List Cond := .code yL_drawn cL_drawn 3 (some .int) :: ([.constant RL 7 (1073741823)])
def wsL_insert_r1 : List Cond := [Cond.classLink RL 14 "java/lang/IndexOutOfBoundsException", Cond.classLink RL 16 "java/lang/IllegalArgumentException", Cond.classLink RL 18 "java/lang/IllegalStateException", Cond.methodLink RL 8 yX0_insert, Cond.instanceMethod yX0_insert, Cond.selects RX0 yX0_insert yX0_insert, Cond.initialized RX0, Cond.code yX0_insert cX0_insert 7 (some .int), Cond.classLink RX0 66 "java/lang/IllegalArgumentException", Cond.initialized "java/lang/IllegalArgumentException", Cond.fieldLink RX0 33 "EditGraph" "knownSets" "[J", Cond.fieldLink RX0 45 "EditGraph" "textEvents" "[I", Cond.methodLink RX0 54 yX0_checkAuthor, Cond.instanceMethod yX0_checkAuthor, Cond.selects RX0 yX0_checkAuthor yX0_checkAuthor, Cond.code yX0_checkAuthor cX0_checkAuthor 2 none, Cond.classLink RX0 126 "java/lang/IndexOutOfBoundsException", Cond.initialized "java/lang/IndexOutOfBoundsException", Cond.methodLink RX0 58 yX0_findText, Cond.instanceMethod yX0_findText, Cond.selects RX0 yX0_findText yX0_findText, Cond.code yX0_findText cX0_findText 9 (some .int), Cond.fieldLink RX0 36 "EditGraph" "firstAtBeginning" "I", Cond.fieldLink RX0 48 "EditGraph" "waiting" "[I"]
def wsL_insert_r2 : List Cond := [Cond.fieldLink RX0 42 "EditGraph" "nextBeside" "[I", Cond.fieldLink RX0 39 "EditGraph" "firstHanging" "[I", Cond.methodLink RX0 153 yX0_standingIn, Cond.instanceMethod yX0_standingIn, Cond.selects RX0 yX0_standingIn yX0_standingIn, Cond.code yX0_standingIn cX0_standingIn 8 (some .long), Cond.fieldLink RX0 7 "EditGraph" "eventCount" "I", Cond.fieldLink RX0 20 "EditGraph" "targets" "[I", Cond.constantLong RX0 112 (-1), Cond.methodLink RX0 101 yX0_has, Cond.static yX0_has, Cond.code yX0_has cX0_has 3 (some .boolean), Cond.methodLink RX0 143 yX0_only, Cond.static yX0_only, Cond.code yX0_only cX0_only 1 (some .long), Cond.methodLink RX0 146 yX0_isInsert, Cond.instanceMethod yX0_isInsert, Cond.selects RX0 yX0_isInsert yX0_isInsert, Cond.code yX0_isInsert cX0_isInsert 2 (some .boolean), Cond.fieldLink RX0 17 "EditGraph" "letters" "[I", Cond.methodLink RX0 156 yX0_putWaiting, Cond.instanceMethod yX0_putWaiting, Cond.selects RX0 yX0_putWaiting yX0_putWaiting, Cond.code yX0_putWaiting cX0_putWaiting 3 (some .int)]
def wsL_insert_r3 : List Cond := [Cond.methodLink RX0 131 yX0_isEvent, Cond.instanceMethod yX0_isEvent, Cond.selects RX0 yX0_isEvent yX0_isEvent, Cond.code yX0_isEvent cX0_isEvent 2 (some .boolean), Cond.methodLink RX0 160 yX0_putText, Cond.instanceMethod yX0_putText, Cond.selects RX0 yX0_putText yX0_putText, Cond.code yX0_putText cX0_putText 5 (some .int), Cond.methodLink RX0 62 yX0_checkPlace, Cond.instanceMethod yX0_checkPlace, Cond.selects RX0 yX0_checkPlace yX0_checkPlace, Cond.code yX0_checkPlace cX0_checkPlace 3 none, Cond.methodLink RX0 73 yX0_checkRoom, Cond.instanceMethod yX0_checkRoom, Cond.selects RX0 yX0_checkRoom yX0_checkRoom, Cond.code yX0_checkRoom cX0_checkRoom 1 none, Cond.classLink RX0 138 "java/lang/IllegalStateException", Cond.initialized "java/lang/IllegalStateException", Cond.methodLink RX0 76 yX0_addEvent, Cond.instanceMethod yX0_addEvent, Cond.selects RX0 yX0_addEvent yX0_addEvent, Cond.code yX0_addEvent cX0_addEvent 7 (some .int), Cond.fieldLink RX0 13 "EditGraph" "makers" "[I", Cond.fieldLink RX0 23 "EditGraph" "parentSets" "[J"]
def wsL_insert_r4 : List Cond := [Cond.fieldLink RX0 27 "EditGraph" "ancestorSets" "[J", Cond.methodLink RX0 105 yX0_headsOf, Cond.instanceMethod yX0_headsOf, Cond.selects RX0 yX0_headsOf yX0_headsOf, Cond.code yX0_headsOf cX0_headsOf 6 (some .long), Cond.methodLink RX0 149 yX0_markLater, Cond.instanceMethod yX0_markLater, Cond.selects RX0 yX0_markLater yX0_markLater, Cond.code yX0_markLater cX0_markLater 5 none, Cond.fieldLink RX0 30 "EditGraph" "laterSets" "[J", Cond.methodLink RX0 80 yX0_hangLetter, Cond.instanceMethod yX0_hangLetter, Cond.selects RX0 yX0_hangLetter yX0_hangLetter, Cond.code yX0_hangLetter cX0_hangLetter 3 none]
def wsL_insert : List Cond := .codeWith yL_insert cL_insert 5 (some .int) [(0, 7, 8, 14), (0, 7, 13, 16), (0, 7, 18, 18)] :: ((wsL_insert_r1 ++ (wsL_insert_r2 ++ (wsL_insert_r3 ++ wsL_insert_r4))) ++ wsX00 ++ (vx_atS RX0 70 "java/lang/IllegalArgumentException" ["java/lang/RuntimeException", "java/lang/Exception"]).filter goodWord ++ (vx_atS RX0 130 "java/lang/IndexOutOfBoundsException" ["java/lang/RuntimeException", "java/lang/Exception"]).filter goodWord ++ (vx_atS RX0 142 "java/lang/IllegalStateException" ["java/lang/RuntimeException", "java/lang/Exception"]).filter goodWord)
def wsL_does_r1 : List Cond := [Cond.classLink RL 14 "java/lang/IndexOutOfBoundsException", Cond.classLink RL 18 "java/lang/IllegalStateException", Cond.methodLink RL 20 yX0_delete, Cond.instanceMethod yX0_delete, Cond.selects RX0 yX0_delete yX0_delete, Cond.initialized RX0, Cond.code yX0_delete cX0_delete 4 (some .int), Cond.fieldLink RX0 33 "EditGraph" "knownSets" "[J", Cond.fieldLink RX0 45 "EditGraph" "textEvents" "[I", Cond.methodLink RX0 54 yX0_checkAuthor, Cond.instanceMethod yX0_checkAuthor, Cond.selects RX0 yX0_checkAuthor yX0_checkAuthor, Cond.code yX0_checkAuthor cX0_checkAuthor 2 none, Cond.classLink RX0 126 "java/lang/IndexOutOfBoundsException", Cond.initialized "java/lang/IndexOutOfBoundsException", Cond.methodLink RX0 58 yX0_findText, Cond.instanceMethod yX0_findText, Cond.selects RX0 yX0_findText yX0_findText, Cond.code yX0_findText cX0_findText 9 (some .int), Cond.fieldLink RX0 36 "EditGraph" "firstAtBeginning" "I", Cond.fieldLink RX0 48 "EditGraph" "waiting" "[I", Cond.fieldLink RX0 42 "EditGraph" "nextBeside" "[I", Cond.fieldLink RX0 39 "EditGraph" "firstHanging" "[I", Cond.methodLink RX0 153 yX0_standingIn]
def wsL_does_r2 : List Cond := [Cond.instanceMethod yX0_standingIn, Cond.selects RX0 yX0_standingIn yX0_standingIn, Cond.code yX0_standingIn cX0_standingIn 8 (some .long), Cond.fieldLink RX0 7 "EditGraph" "eventCount" "I", Cond.fieldLink RX0 20 "EditGraph" "targets" "[I", Cond.constantLong RX0 112 (-1), Cond.methodLink RX0 101 yX0_has, Cond.static yX0_has, Cond.code yX0_has cX0_has 3 (some .boolean), Cond.methodLink RX0 143 yX0_only, Cond.static yX0_only, Cond.code yX0_only cX0_only 1 (some .long), Cond.methodLink RX0 146 yX0_isInsert, Cond.instanceMethod yX0_isInsert, Cond.selects RX0 yX0_isInsert yX0_isInsert, Cond.code yX0_isInsert cX0_isInsert 2 (some .boolean), Cond.fieldLink RX0 17 "EditGraph" "letters" "[I", Cond.methodLink RX0 156 yX0_putWaiting, Cond.instanceMethod yX0_putWaiting, Cond.selects RX0 yX0_putWaiting yX0_putWaiting, Cond.code yX0_putWaiting cX0_putWaiting 3 (some .int), Cond.methodLink RX0 131 yX0_isEvent, Cond.instanceMethod yX0_isEvent, Cond.selects RX0 yX0_isEvent yX0_isEvent]
def wsL_does_r3 : List Cond := [Cond.code yX0_isEvent cX0_isEvent 2 (some .boolean), Cond.methodLink RX0 160 yX0_putText, Cond.instanceMethod yX0_putText, Cond.selects RX0 yX0_putText yX0_putText, Cond.code yX0_putText cX0_putText 5 (some .int), Cond.methodLink RX0 62 yX0_checkPlace, Cond.instanceMethod yX0_checkPlace, Cond.selects RX0 yX0_checkPlace yX0_checkPlace, Cond.code yX0_checkPlace cX0_checkPlace 3 none, Cond.methodLink RX0 73 yX0_checkRoom, Cond.instanceMethod yX0_checkRoom, Cond.selects RX0 yX0_checkRoom yX0_checkRoom, Cond.code yX0_checkRoom cX0_checkRoom 1 none, Cond.classLink RX0 138 "java/lang/IllegalStateException", Cond.initialized "java/lang/IllegalStateException", Cond.methodLink RX0 76 yX0_addEvent, Cond.instanceMethod yX0_addEvent, Cond.selects RX0 yX0_addEvent yX0_addEvent, Cond.code yX0_addEvent cX0_addEvent 7 (some .int), Cond.fieldLink RX0 13 "EditGraph" "makers" "[I", Cond.fieldLink RX0 23 "EditGraph" "parentSets" "[J", Cond.fieldLink RX0 27 "EditGraph" "ancestorSets" "[J", Cond.methodLink RX0 105 yX0_headsOf, Cond.instanceMethod yX0_headsOf]
def wsL_does_r4 : List Cond := [Cond.selects RX0 yX0_headsOf yX0_headsOf, Cond.code yX0_headsOf cX0_headsOf 6 (some .long), Cond.methodLink RX0 149 yX0_markLater, Cond.instanceMethod yX0_markLater, Cond.selects RX0 yX0_markLater yX0_markLater, Cond.code yX0_markLater cX0_markLater 5 none, Cond.fieldLink RX0 30 "EditGraph" "laterSets" "[J", Cond.methodLink RL 24 yX0_learn, Cond.instanceMethod yX0_learn, Cond.selects RX0 yX0_learn yX0_learn, Cond.code yX0_learn cX0_learn 3 (some .int), Cond.methodLink RX0 83 yX0_addKnown, Cond.instanceMethod yX0_addKnown, Cond.selects RX0 yX0_addKnown yX0_addKnown, Cond.code yX0_addKnown cX0_addKnown 5 (some .int), Cond.methodLink RX0 114 yJ13_bitCount_95d88, Cond.static yJ13_bitCount_95d88, Cond.initialized RJ13, Cond.code yJ13_bitCount_95d88 cJ13_bitCount_95d88 2 (some .int), Cond.constantLong RJ13 314 (6148914691236517205), Cond.constantLong RJ13 316 (3689348814741910323), Cond.constantLong RJ13 318 (1085102592571150095), Cond.methodLink RL 27 yX0_learnEvent, Cond.instanceMethod yX0_learnEvent]
def wsL_does_r5 : List Cond := [Cond.selects RX0 yX0_learnEvent yX0_learnEvent, Cond.code yX0_learnEvent cX0_learnEvent 3 (some .int), Cond.methodLink RX0 87 yX0_checkEvent, Cond.instanceMethod yX0_checkEvent, Cond.selects RX0 yX0_checkEvent yX0_checkEvent, Cond.code yX0_checkEvent cX0_checkEvent 2 none, Cond.methodLink RX0 90 yX0_versionOfEvent, Cond.instanceMethod yX0_versionOfEvent, Cond.selects RX0 yX0_versionOfEvent yX0_versionOfEvent, Cond.code yX0_versionOfEvent cX0_versionOfEvent 2 (some .long)]
def wsL_does : List Cond := .codeWith yL_does cL_does 5 (some .int) [(0, 33, 34, 14), (0, 33, 39, 18)] :: ((wsL_does_r1 ++ (wsL_does_r2 ++ (wsL_does_r3 ++ (wsL_does_r4 ++ wsL_does_r5)))) ++ wsX00 ++ (vx_atS RX0 130 "java/lang/IndexOutOfBoundsException" ["java/lang/RuntimeException", "java/lang/Exception"]).filter goodWord ++ (vx_atS RX0 142 "java/lang/IllegalStateException" ["java/lang/RuntimeException", "java/lang/Exception"]).filter goodWord)
def wsL_of_r1 : List Cond := [Cond.classLink RL 14 "java/lang/IndexOutOfBoundsException", Cond.methodLink RL 30 yX0_length, Cond.instanceMethod yX0_length, Cond.selects RX0 yX0_length yX0_length, Cond.initialized RX0, Cond.code yX0_length cX0_length 2 (some .int), Cond.fieldLink RX0 33 "EditGraph" "knownSets" "[J", Cond.methodLink RX0 54 yX0_checkAuthor, Cond.instanceMethod yX0_checkAuthor, Cond.selects RX0 yX0_checkAuthor yX0_checkAuthor, Cond.code yX0_checkAuthor cX0_checkAuthor 2 none, Cond.classLink RX0 126 "java/lang/IndexOutOfBoundsException", Cond.initialized "java/lang/IndexOutOfBoundsException", Cond.methodLink RX0 58 yX0_findText, Cond.instanceMethod yX0_findText, Cond.selects RX0 yX0_findText yX0_findText, Cond.code yX0_findText cX0_findText 9 (some .int), Cond.fieldLink RX0 36 "EditGraph" "firstAtBeginning" "I", Cond.fieldLink RX0 48 "EditGraph" "waiting" "[I", Cond.fieldLink RX0 42 "EditGraph" "nextBeside" "[I", Cond.fieldLink RX0 39 "EditGraph" "firstHanging" "[I", Cond.methodLink RX0 153 yX0_standingIn, Cond.instanceMethod yX0_standingIn, Cond.selects RX0 yX0_standingIn yX0_standingIn]
def wsL_of_r2 : List Cond := [Cond.code yX0_standingIn cX0_standingIn 8 (some .long), Cond.fieldLink RX0 7 "EditGraph" "eventCount" "I", Cond.fieldLink RX0 20 "EditGraph" "targets" "[I", Cond.constantLong RX0 112 (-1), Cond.methodLink RX0 101 yX0_has, Cond.static yX0_has, Cond.code yX0_has cX0_has 3 (some .boolean), Cond.methodLink RX0 143 yX0_only, Cond.static yX0_only, Cond.code yX0_only cX0_only 1 (some .long), Cond.methodLink RX0 146 yX0_isInsert, Cond.instanceMethod yX0_isInsert, Cond.selects RX0 yX0_isInsert yX0_isInsert, Cond.code yX0_isInsert cX0_isInsert 2 (some .boolean), Cond.fieldLink RX0 17 "EditGraph" "letters" "[I", Cond.methodLink RX0 156 yX0_putWaiting, Cond.instanceMethod yX0_putWaiting, Cond.selects RX0 yX0_putWaiting yX0_putWaiting, Cond.code yX0_putWaiting cX0_putWaiting 3 (some .int), Cond.methodLink RX0 131 yX0_isEvent, Cond.instanceMethod yX0_isEvent, Cond.selects RX0 yX0_isEvent yX0_isEvent, Cond.code yX0_isEvent cX0_isEvent 2 (some .boolean), Cond.methodLink RX0 160 yX0_putText]
def wsL_of_r3 : List Cond := [Cond.instanceMethod yX0_putText, Cond.selects RX0 yX0_putText yX0_putText, Cond.code yX0_putText cX0_putText 5 (some .int), Cond.fieldLink RX0 45 "EditGraph" "textEvents" "[I", Cond.methodLink RL 34 yX0_concurrent, Cond.instanceMethod yX0_concurrent, Cond.selects RX0 yX0_concurrent yX0_concurrent, Cond.code yX0_concurrent cX0_concurrent 6 (some .int), Cond.methodLink RX0 109 yX0_relatedTo, Cond.instanceMethod yX0_relatedTo, Cond.selects RX0 yX0_relatedTo yX0_relatedTo, Cond.code yX0_relatedTo cX0_relatedTo 2 (some .long), Cond.fieldLink RX0 30 "EditGraph" "laterSets" "[J", Cond.methodLink RX0 90 yX0_versionOfEvent, Cond.instanceMethod yX0_versionOfEvent, Cond.selects RX0 yX0_versionOfEvent yX0_versionOfEvent, Cond.code yX0_versionOfEvent cX0_versionOfEvent 2 (some .long), Cond.fieldLink RX0 27 "EditGraph" "ancestorSets" "[J", Cond.methodLink RX0 114 yJ13_bitCount_95d88, Cond.static yJ13_bitCount_95d88, Cond.initialized RJ13, Cond.code yJ13_bitCount_95d88 cJ13_bitCount_95d88 2 (some .int), Cond.constantLong RJ13 314 (6148914691236517205), Cond.constantLong RJ13 316 (3689348814741910323)]
def wsL_of_r4 : List Cond := [Cond.constantLong RJ13 318 (1085102592571150095), Cond.methodLink RL 37 yX0_toReplay, Cond.instanceMethod yX0_toReplay, Cond.selects RX0 yX0_toReplay yX0_toReplay, Cond.code yX0_toReplay cX0_toReplay 9 (some .int), Cond.methodLink RX0 119 yX0_criticalOf, Cond.instanceMethod yX0_criticalOf, Cond.selects RX0 yX0_criticalOf yX0_criticalOf, Cond.code yX0_criticalOf cX0_criticalOf 6 (some .long), Cond.methodLink RL 40 yX0_runs, Cond.instanceMethod yX0_runs, Cond.selects RX0 yX0_runs yX0_runs, Cond.code yX0_runs cX0_runs 6 (some .int), Cond.methodLink RX0 122 yX0_continuesRun, Cond.instanceMethod yX0_continuesRun, Cond.selects RX0 yX0_continuesRun yX0_continuesRun, Cond.code yX0_continuesRun cX0_continuesRun 3 (some .boolean), Cond.fieldLink RX0 23 "EditGraph" "parentSets" "[J", Cond.fieldLink RX0 13 "EditGraph" "makers" "[I", Cond.methodLink RL 43 yX0_letterAt, Cond.instanceMethod yX0_letterAt, Cond.selects RX0 yX0_letterAt yX0_letterAt, Cond.code yX0_letterAt cX0_letterAt 3 (some .int), Cond.methodLink RX0 94 yX0_eventInText]
def wsL_of_r5 : List Cond := [Cond.instanceMethod yX0_eventInText, Cond.selects RX0 yX0_eventInText yX0_eventInText, Cond.code yX0_eventInText cX0_eventInText 5 (some .int), Cond.methodLink RX0 62 yX0_checkPlace, Cond.instanceMethod yX0_checkPlace, Cond.selects RX0 yX0_checkPlace yX0_checkPlace, Cond.code yX0_checkPlace cX0_checkPlace 3 none, Cond.methodLink RL 46 yX0_letterByList, Cond.instanceMethod yX0_letterByList, Cond.selects RX0 yX0_letterByList yX0_letterByList, Cond.code yX0_letterByList cX0_letterByList 4 (some .int), Cond.methodLink RX0 98 yX0_findTextByList, Cond.instanceMethod yX0_findTextByList, Cond.selects RX0 yX0_findTextByList yX0_findTextByList, Cond.code yX0_findTextByList cX0_findTextByList 8 (some .int), Cond.fieldLink RX0 51 "EditGraph" "behind" "[I", Cond.methodLink RX0 164 yX0_layList, Cond.instanceMethod yX0_layList, Cond.selects RX0 yX0_layList yX0_layList, Cond.code yX0_layList cX0_layList 6 (some .int), Cond.methodLink RL 49 yX0_eventAt, Cond.instanceMethod yX0_eventAt, Cond.selects RX0 yX0_eventAt yX0_eventAt, Cond.code yX0_eventAt cX0_eventAt 3 (some .int)]
def wsL_of : List Cond := .codeWith yL_of cL_of 5 (some .int) [(0, 85, 86, 14)] :: ((wsL_of_r1 ++ (wsL_of_r2 ++ (wsL_of_r3 ++ (wsL_of_r4 ++ wsL_of_r5)))) ++ wsX00 ++ (vx_atS RX0 130 "java/lang/IndexOutOfBoundsException" ["java/lang/RuntimeException", "java/lang/Exception"]).filter goodWord)
def wsL_set_r1 : List Cond := [Cond.classLink RL 14 "java/lang/IndexOutOfBoundsException", Cond.constantLong RL 69 (-8), Cond.methodLink RL 52 yX0_version, Cond.instanceMethod yX0_version, Cond.selects RX0 yX0_version yX0_version, Cond.initialized RX0, Cond.code yX0_version cX0_version 2 (some .long), Cond.fieldLink RX0 33 "EditGraph" "knownSets" "[J", Cond.methodLink RX0 54 yX0_checkAuthor, Cond.instanceMethod yX0_checkAuthor, Cond.selects RX0 yX0_checkAuthor yX0_checkAuthor, Cond.code yX0_checkAuthor cX0_checkAuthor 2 none, Cond.classLink RX0 126 "java/lang/IndexOutOfBoundsException", Cond.initialized "java/lang/IndexOutOfBoundsException", Cond.methodLink RL 56 yX0_heads, Cond.instanceMethod yX0_heads, Cond.selects RX0 yX0_heads yX0_heads, Cond.code yX0_heads cX0_heads 2 (some .long), Cond.methodLink RX0 105 yX0_headsOf, Cond.instanceMethod yX0_headsOf, Cond.selects RX0 yX0_headsOf yX0_headsOf, Cond.code yX0_headsOf cX0_headsOf 6 (some .long), Cond.fieldLink RX0 7 "EditGraph" "eventCount" "I", Cond.fieldLink RX0 23 "EditGraph" "parentSets" "[J"]
def wsL_set_r2 : List Cond := [Cond.constantLong RX0 112 (-1), Cond.methodLink RX0 101 yX0_has, Cond.static yX0_has, Cond.code yX0_has cX0_has 3 (some .boolean), Cond.methodLink RX0 143 yX0_only, Cond.static yX0_only, Cond.code yX0_only cX0_only 1 (some .long), Cond.methodLink RL 59 yX0_critical, Cond.instanceMethod yX0_critical, Cond.selects RX0 yX0_critical yX0_critical, Cond.code yX0_critical cX0_critical 2 (some .long), Cond.methodLink RX0 119 yX0_criticalOf, Cond.instanceMethod yX0_criticalOf, Cond.selects RX0 yX0_criticalOf yX0_criticalOf, Cond.code yX0_criticalOf cX0_criticalOf 6 (some .long), Cond.methodLink RX0 109 yX0_relatedTo, Cond.instanceMethod yX0_relatedTo, Cond.selects RX0 yX0_relatedTo yX0_relatedTo, Cond.code yX0_relatedTo cX0_relatedTo 2 (some .long), Cond.fieldLink RX0 30 "EditGraph" "laterSets" "[J", Cond.methodLink RX0 90 yX0_versionOfEvent, Cond.instanceMethod yX0_versionOfEvent, Cond.selects RX0 yX0_versionOfEvent yX0_versionOfEvent, Cond.code yX0_versionOfEvent cX0_versionOfEvent 2 (some .long)]
def wsL_set_r3 : List Cond := [Cond.fieldLink RX0 27 "EditGraph" "ancestorSets" "[J", Cond.methodLink RL 62 yX0_commonHeads, Cond.instanceMethod yX0_commonHeads, Cond.selects RX0 yX0_commonHeads yX0_commonHeads, Cond.code yX0_commonHeads cX0_commonHeads 3 (some .long), Cond.methodLink RL 66 yX0_lettersBy, Cond.instanceMethod yX0_lettersBy, Cond.selects RX0 yX0_lettersBy yX0_lettersBy, Cond.code yX0_lettersBy cX0_lettersBy 6 (some .int), Cond.fieldLink RX0 13 "EditGraph" "makers" "[I", Cond.fieldLink RX0 45 "EditGraph" "textEvents" "[I", Cond.methodLink RX0 58 yX0_findText, Cond.instanceMethod yX0_findText, Cond.selects RX0 yX0_findText yX0_findText, Cond.code yX0_findText cX0_findText 9 (some .int), Cond.fieldLink RX0 36 "EditGraph" "firstAtBeginning" "I", Cond.fieldLink RX0 48 "EditGraph" "waiting" "[I", Cond.fieldLink RX0 42 "EditGraph" "nextBeside" "[I", Cond.fieldLink RX0 39 "EditGraph" "firstHanging" "[I", Cond.methodLink RX0 153 yX0_standingIn, Cond.instanceMethod yX0_standingIn, Cond.selects RX0 yX0_standingIn yX0_standingIn, Cond.code yX0_standingIn cX0_standingIn 8 (some .long), Cond.fieldLink RX0 20 "EditGraph" "targets" "[I"]
def wsL_set_r4 : List Cond := [Cond.methodLink RX0 146 yX0_isInsert, Cond.instanceMethod yX0_isInsert, Cond.selects RX0 yX0_isInsert yX0_isInsert, Cond.code yX0_isInsert cX0_isInsert 2 (some .boolean), Cond.fieldLink RX0 17 "EditGraph" "letters" "[I", Cond.methodLink RX0 156 yX0_putWaiting, Cond.instanceMethod yX0_putWaiting, Cond.selects RX0 yX0_putWaiting yX0_putWaiting, Cond.code yX0_putWaiting cX0_putWaiting 3 (some .int), Cond.methodLink RX0 131 yX0_isEvent, Cond.instanceMethod yX0_isEvent, Cond.selects RX0 yX0_isEvent yX0_isEvent, Cond.code yX0_isEvent cX0_isEvent 2 (some .boolean), Cond.methodLink RX0 160 yX0_putText, Cond.instanceMethod yX0_putText, Cond.selects RX0 yX0_putText yX0_putText, Cond.code yX0_putText cX0_putText 5 (some .int)]
def wsL_set : List Cond := .codeWith yL_set cL_set 5 (some .long) [(0, 59, 60, 14)] :: ((wsL_set_r1 ++ (wsL_set_r2 ++ (wsL_set_r3 ++ wsL_set_r4))) ++ wsX00 ++ (vx_atS RX0 130 "java/lang/IndexOutOfBoundsException" ["java/lang/RuntimeException", "java/lang/Exception"]).filter goodWord)
def wsL_by_r1 : List Cond := [Cond.classLink RL 14 "java/lang/IndexOutOfBoundsException", Cond.constantLong RL 69 (-8), Cond.methodLink RL 71 yX0_parents, Cond.instanceMethod yX0_parents, Cond.selects RX0 yX0_parents yX0_parents, Cond.initialized RX0, Cond.code yX0_parents cX0_parents 2 (some .long), Cond.fieldLink RX0 23 "EditGraph" "parentSets" "[J", Cond.methodLink RX0 87 yX0_checkEvent, Cond.instanceMethod yX0_checkEvent, Cond.selects RX0 yX0_checkEvent yX0_checkEvent, Cond.code yX0_checkEvent cX0_checkEvent 2 none, Cond.classLink RX0 126 "java/lang/IndexOutOfBoundsException", Cond.initialized "java/lang/IndexOutOfBoundsException", Cond.methodLink RX0 131 yX0_isEvent, Cond.instanceMethod yX0_isEvent, Cond.selects RX0 yX0_isEvent yX0_isEvent, Cond.code yX0_isEvent cX0_isEvent 2 (some .boolean), Cond.fieldLink RX0 7 "EditGraph" "eventCount" "I", Cond.methodLink RL 74 yX0_lengthOf, Cond.instanceMethod yX0_lengthOf, Cond.selects RX0 yX0_lengthOf yX0_lengthOf, Cond.code yX0_lengthOf cX0_lengthOf 2 (some .int), Cond.methodLink RX0 90 yX0_versionOfEvent]
def wsL_by_r2 : List Cond := [Cond.instanceMethod yX0_versionOfEvent, Cond.selects RX0 yX0_versionOfEvent yX0_versionOfEvent, Cond.code yX0_versionOfEvent cX0_versionOfEvent 2 (some .long), Cond.fieldLink RX0 27 "EditGraph" "ancestorSets" "[J", Cond.methodLink RX0 143 yX0_only, Cond.static yX0_only, Cond.code yX0_only cX0_only 1 (some .long), Cond.methodLink RX0 58 yX0_findText, Cond.instanceMethod yX0_findText, Cond.selects RX0 yX0_findText yX0_findText, Cond.code yX0_findText cX0_findText 9 (some .int), Cond.fieldLink RX0 36 "EditGraph" "firstAtBeginning" "I", Cond.fieldLink RX0 48 "EditGraph" "waiting" "[I", Cond.fieldLink RX0 42 "EditGraph" "nextBeside" "[I", Cond.fieldLink RX0 39 "EditGraph" "firstHanging" "[I", Cond.methodLink RX0 153 yX0_standingIn, Cond.instanceMethod yX0_standingIn, Cond.selects RX0 yX0_standingIn yX0_standingIn, Cond.code yX0_standingIn cX0_standingIn 8 (some .long), Cond.fieldLink RX0 20 "EditGraph" "targets" "[I", Cond.constantLong RX0 112 (-1), Cond.methodLink RX0 101 yX0_has, Cond.static yX0_has, Cond.code yX0_has cX0_has 3 (some .boolean)]
def wsL_by_r3 : List Cond := [Cond.methodLink RX0 146 yX0_isInsert, Cond.instanceMethod yX0_isInsert, Cond.selects RX0 yX0_isInsert yX0_isInsert, Cond.code yX0_isInsert cX0_isInsert 2 (some .boolean), Cond.fieldLink RX0 17 "EditGraph" "letters" "[I", Cond.methodLink RX0 156 yX0_putWaiting, Cond.instanceMethod yX0_putWaiting, Cond.selects RX0 yX0_putWaiting yX0_putWaiting, Cond.code yX0_putWaiting cX0_putWaiting 3 (some .int), Cond.methodLink RX0 160 yX0_putText, Cond.instanceMethod yX0_putText, Cond.selects RX0 yX0_putText yX0_putText, Cond.code yX0_putText cX0_putText 5 (some .int), Cond.fieldLink RX0 45 "EditGraph" "textEvents" "[I", Cond.methodLink RL 77 yX0_letterOf, Cond.instanceMethod yX0_letterOf, Cond.selects RX0 yX0_letterOf yX0_letterOf, Cond.code yX0_letterOf cX0_letterOf 3 (some .int), Cond.methodLink RX0 94 yX0_eventInText, Cond.instanceMethod yX0_eventInText, Cond.selects RX0 yX0_eventInText yX0_eventInText, Cond.code yX0_eventInText cX0_eventInText 5 (some .int), Cond.methodLink RX0 62 yX0_checkPlace, Cond.instanceMethod yX0_checkPlace]
def wsL_by_r4 : List Cond := [Cond.selects RX0 yX0_checkPlace yX0_checkPlace, Cond.code yX0_checkPlace cX0_checkPlace 3 none, Cond.methodLink RL 80 yX0_isLater, Cond.instanceMethod yX0_isLater, Cond.selects RX0 yX0_isLater yX0_isLater, Cond.code yX0_isLater cX0_isLater 3 (some .boolean), Cond.methodLink RL 84 yX0_authorOf, Cond.instanceMethod yX0_authorOf, Cond.selects RX0 yX0_authorOf yX0_authorOf, Cond.code yX0_authorOf cX0_authorOf 2 (some .int), Cond.fieldLink RX0 13 "EditGraph" "makers" "[I"]
def wsL_by : List Cond := .codeWith yL_by cL_by 5 (some .long) [(0, 69, 70, 14)] :: ((wsL_by_r1 ++ (wsL_by_r2 ++ (wsL_by_r3 ++ wsL_by_r4))) ++ wsX00 ++ (vx_atS RX0 130 "java/lang/IndexOutOfBoundsException" ["java/lang/RuntimeException", "java/lang/Exception"]).filter goodWord)
def wsL_law0_r1 : List Cond := [Cond.classLink RL 9 RX0, Cond.instantiable RX0 14, Cond.initialized RX0, Cond.constantLong RL 114 (4), Cond.methodLink RL 87 yX0_init, Cond.instanceMethod yX0_init, Cond.code yX0_init cX0_init 1 none, Cond.methodLink RX0 1 objectInit, Cond.instanceMethod objectInit, Cond.code objectInit ⟨#[0xb1]⟩ 1 none, Cond.fieldLink RX0 7 "EditGraph" "eventCount" "I", Cond.arrayClass .int, Cond.fieldLink RX0 13 "EditGraph" "makers" "[I", Cond.fieldLink RX0 17 "EditGraph" "letters" "[I", Cond.fieldLink RX0 20 "EditGraph" "targets" "[I", Cond.arrayClass .long, Cond.fieldLink RX0 23 "EditGraph" "parentSets" "[J", Cond.fieldLink RX0 27 "EditGraph" "ancestorSets" "[J", Cond.fieldLink RX0 30 "EditGraph" "laterSets" "[J", Cond.fieldLink RX0 33 "EditGraph" "knownSets" "[J", Cond.fieldLink RX0 36 "EditGraph" "firstAtBeginning" "I", Cond.fieldLink RX0 39 "EditGraph" "firstHanging" "[I", Cond.fieldLink RX0 42 "EditGraph" "nextBeside" "[I", Cond.fieldLink RX0 45 "EditGraph" "textEvents" "[I"]
def wsL_law0_r2 : List Cond := [Cond.fieldLink RX0 48 "EditGraph" "waiting" "[I", Cond.fieldLink RX0 51 "EditGraph" "behind" "[I", Cond.methodLink RL 88 yL_drawn, Cond.static yL_drawn, Cond.initialized RL, Cond.code yL_drawn cL_drawn 3 (some .int), Cond.constant RL 7 (1073741823), Cond.methodLink RL 94 yX0_events, Cond.instanceMethod yX0_events, Cond.selects RX0 yX0_events yX0_events, Cond.code yX0_events cX0_events 1 (some .int), Cond.methodLink RL 98 yL_of, Cond.static yL_of, Cond.codeWith yL_of cL_of 5 (some .int) [(0, 85, 86, 14)], Cond.classLink RL 14 "java/lang/IndexOutOfBoundsException", Cond.methodLink RL 30 yX0_length, Cond.instanceMethod yX0_length, Cond.selects RX0 yX0_length yX0_length, Cond.code yX0_length cX0_length 2 (some .int), Cond.methodLink RX0 54 yX0_checkAuthor, Cond.instanceMethod yX0_checkAuthor, Cond.selects RX0 yX0_checkAuthor yX0_checkAuthor, Cond.code yX0_checkAuthor cX0_checkAuthor 2 none, Cond.classLink RX0 126 "java/lang/IndexOutOfBoundsException"]
def wsL_law0_r3 : List Cond := [Cond.initialized "java/lang/IndexOutOfBoundsException", Cond.methodLink RX0 58 yX0_findText, Cond.instanceMethod yX0_findText, Cond.selects RX0 yX0_findText yX0_findText, Cond.code yX0_findText cX0_findText 9 (some .int), Cond.methodLink RX0 153 yX0_standingIn, Cond.instanceMethod yX0_standingIn, Cond.selects RX0 yX0_standingIn yX0_standingIn, Cond.code yX0_standingIn cX0_standingIn 8 (some .long), Cond.constantLong RX0 112 (-1), Cond.methodLink RX0 101 yX0_has, Cond.static yX0_has, Cond.code yX0_has cX0_has 3 (some .boolean), Cond.methodLink RX0 143 yX0_only, Cond.static yX0_only, Cond.code yX0_only cX0_only 1 (some .long), Cond.methodLink RX0 146 yX0_isInsert, Cond.instanceMethod yX0_isInsert, Cond.selects RX0 yX0_isInsert yX0_isInsert, Cond.code yX0_isInsert cX0_isInsert 2 (some .boolean), Cond.methodLink RX0 156 yX0_putWaiting, Cond.instanceMethod yX0_putWaiting, Cond.selects RX0 yX0_putWaiting yX0_putWaiting, Cond.code yX0_putWaiting cX0_putWaiting 3 (some .int)]
def wsL_law0_r4 : List Cond := [Cond.methodLink RX0 131 yX0_isEvent, Cond.instanceMethod yX0_isEvent, Cond.selects RX0 yX0_isEvent yX0_isEvent, Cond.code yX0_isEvent cX0_isEvent 2 (some .boolean), Cond.methodLink RX0 160 yX0_putText, Cond.instanceMethod yX0_putText, Cond.selects RX0 yX0_putText yX0_putText, Cond.code yX0_putText cX0_putText 5 (some .int), Cond.methodLink RL 34 yX0_concurrent, Cond.instanceMethod yX0_concurrent, Cond.selects RX0 yX0_concurrent yX0_concurrent, Cond.code yX0_concurrent cX0_concurrent 6 (some .int), Cond.methodLink RX0 109 yX0_relatedTo, Cond.instanceMethod yX0_relatedTo, Cond.selects RX0 yX0_relatedTo yX0_relatedTo, Cond.code yX0_relatedTo cX0_relatedTo 2 (some .long), Cond.methodLink RX0 90 yX0_versionOfEvent, Cond.instanceMethod yX0_versionOfEvent, Cond.selects RX0 yX0_versionOfEvent yX0_versionOfEvent, Cond.code yX0_versionOfEvent cX0_versionOfEvent 2 (some .long), Cond.methodLink RX0 114 yJ13_bitCount_95d88, Cond.static yJ13_bitCount_95d88, Cond.initialized RJ13, Cond.code yJ13_bitCount_95d88 cJ13_bitCount_95d88 2 (some .int)]
def wsL_law0_r5 : List Cond := [Cond.constantLong RJ13 314 (6148914691236517205), Cond.constantLong RJ13 316 (3689348814741910323), Cond.constantLong RJ13 318 (1085102592571150095), Cond.methodLink RL 37 yX0_toReplay, Cond.instanceMethod yX0_toReplay, Cond.selects RX0 yX0_toReplay yX0_toReplay, Cond.code yX0_toReplay cX0_toReplay 9 (some .int), Cond.methodLink RX0 119 yX0_criticalOf, Cond.instanceMethod yX0_criticalOf, Cond.selects RX0 yX0_criticalOf yX0_criticalOf, Cond.code yX0_criticalOf cX0_criticalOf 6 (some .long), Cond.methodLink RL 40 yX0_runs, Cond.instanceMethod yX0_runs, Cond.selects RX0 yX0_runs yX0_runs, Cond.code yX0_runs cX0_runs 6 (some .int), Cond.methodLink RX0 122 yX0_continuesRun, Cond.instanceMethod yX0_continuesRun, Cond.selects RX0 yX0_continuesRun yX0_continuesRun, Cond.code yX0_continuesRun cX0_continuesRun 3 (some .boolean), Cond.methodLink RL 43 yX0_letterAt, Cond.instanceMethod yX0_letterAt, Cond.selects RX0 yX0_letterAt yX0_letterAt, Cond.code yX0_letterAt cX0_letterAt 3 (some .int), Cond.methodLink RX0 94 yX0_eventInText]
def wsL_law0_r6 : List Cond := [Cond.instanceMethod yX0_eventInText, Cond.selects RX0 yX0_eventInText yX0_eventInText, Cond.code yX0_eventInText cX0_eventInText 5 (some .int), Cond.methodLink RX0 62 yX0_checkPlace, Cond.instanceMethod yX0_checkPlace, Cond.selects RX0 yX0_checkPlace yX0_checkPlace, Cond.code yX0_checkPlace cX0_checkPlace 3 none, Cond.methodLink RL 46 yX0_letterByList, Cond.instanceMethod yX0_letterByList, Cond.selects RX0 yX0_letterByList yX0_letterByList, Cond.code yX0_letterByList cX0_letterByList 4 (some .int), Cond.methodLink RX0 98 yX0_findTextByList, Cond.instanceMethod yX0_findTextByList, Cond.selects RX0 yX0_findTextByList yX0_findTextByList, Cond.code yX0_findTextByList cX0_findTextByList 8 (some .int), Cond.methodLink RX0 164 yX0_layList, Cond.instanceMethod yX0_layList, Cond.selects RX0 yX0_layList yX0_layList, Cond.code yX0_layList cX0_layList 6 (some .int), Cond.methodLink RL 49 yX0_eventAt, Cond.instanceMethod yX0_eventAt, Cond.selects RX0 yX0_eventAt yX0_eventAt, Cond.code yX0_eventAt cX0_eventAt 3 (some .int), Cond.methodLink RL 102 yL_insert]
def wsL_law0_r7 : List Cond := [Cond.static yL_insert, Cond.codeWith yL_insert cL_insert 5 (some .int) [(0, 7, 8, 14), (0, 7, 13, 16), (0, 7, 18, 18)], Cond.classLink RL 16 "java/lang/IllegalArgumentException", Cond.classLink RL 18 "java/lang/IllegalStateException", Cond.methodLink RL 8 yX0_insert, Cond.instanceMethod yX0_insert, Cond.selects RX0 yX0_insert yX0_insert, Cond.code yX0_insert cX0_insert 7 (some .int), Cond.classLink RX0 66 "java/lang/IllegalArgumentException", Cond.initialized "java/lang/IllegalArgumentException", Cond.methodLink RX0 73 yX0_checkRoom, Cond.instanceMethod yX0_checkRoom, Cond.selects RX0 yX0_checkRoom yX0_checkRoom, Cond.code yX0_checkRoom cX0_checkRoom 1 none, Cond.classLink RX0 138 "java/lang/IllegalStateException", Cond.initialized "java/lang/IllegalStateException", Cond.methodLink RX0 76 yX0_addEvent, Cond.instanceMethod yX0_addEvent, Cond.selects RX0 yX0_addEvent yX0_addEvent, Cond.code yX0_addEvent cX0_addEvent 7 (some .int), Cond.methodLink RX0 105 yX0_headsOf, Cond.instanceMethod yX0_headsOf, Cond.selects RX0 yX0_headsOf yX0_headsOf, Cond.code yX0_headsOf cX0_headsOf 6 (some .long)]
def wsL_law0_r8 : List Cond := [Cond.methodLink RX0 149 yX0_markLater, Cond.instanceMethod yX0_markLater, Cond.selects RX0 yX0_markLater yX0_markLater, Cond.code yX0_markLater cX0_markLater 5 none, Cond.methodLink RX0 80 yX0_hangLetter, Cond.instanceMethod yX0_hangLetter, Cond.selects RX0 yX0_hangLetter yX0_hangLetter, Cond.code yX0_hangLetter cX0_hangLetter 3 none, Cond.methodLink RL 104 yL_does, Cond.static yL_does, Cond.codeWith yL_does cL_does 5 (some .int) [(0, 33, 34, 14), (0, 33, 39, 18)], Cond.methodLink RL 20 yX0_delete, Cond.instanceMethod yX0_delete, Cond.selects RX0 yX0_delete yX0_delete, Cond.code yX0_delete cX0_delete 4 (some .int), Cond.methodLink RL 24 yX0_learn, Cond.instanceMethod yX0_learn, Cond.selects RX0 yX0_learn yX0_learn, Cond.code yX0_learn cX0_learn 3 (some .int), Cond.methodLink RX0 83 yX0_addKnown, Cond.instanceMethod yX0_addKnown, Cond.selects RX0 yX0_addKnown yX0_addKnown, Cond.code yX0_addKnown cX0_addKnown 5 (some .int), Cond.methodLink RL 27 yX0_learnEvent]
def wsL_law0_r9 : List Cond := [Cond.instanceMethod yX0_learnEvent, Cond.selects RX0 yX0_learnEvent yX0_learnEvent, Cond.code yX0_learnEvent cX0_learnEvent 3 (some .int), Cond.methodLink RX0 87 yX0_checkEvent, Cond.instanceMethod yX0_checkEvent, Cond.selects RX0 yX0_checkEvent yX0_checkEvent, Cond.code yX0_checkEvent cX0_checkEvent 2 none, Cond.methodLink RL 107 yL_set, Cond.static yL_set, Cond.codeWith yL_set cL_set 5 (some .long) [(0, 59, 60, 14)], Cond.constantLong RL 69 (-8), Cond.methodLink RL 52 yX0_version, Cond.instanceMethod yX0_version, Cond.selects RX0 yX0_version yX0_version, Cond.code yX0_version cX0_version 2 (some .long), Cond.methodLink RL 56 yX0_heads, Cond.instanceMethod yX0_heads, Cond.selects RX0 yX0_heads yX0_heads, Cond.code yX0_heads cX0_heads 2 (some .long), Cond.methodLink RL 59 yX0_critical, Cond.instanceMethod yX0_critical, Cond.selects RX0 yX0_critical yX0_critical, Cond.code yX0_critical cX0_critical 2 (some .long), Cond.methodLink RL 62 yX0_commonHeads]
def wsL_law0_r10 : List Cond := [Cond.instanceMethod yX0_commonHeads, Cond.selects RX0 yX0_commonHeads yX0_commonHeads, Cond.code yX0_commonHeads cX0_commonHeads 3 (some .long), Cond.methodLink RL 66 yX0_lettersBy, Cond.instanceMethod yX0_lettersBy, Cond.selects RX0 yX0_lettersBy yX0_lettersBy, Cond.code yX0_lettersBy cX0_lettersBy 6 (some .int), Cond.methodLink RL 111 yL_by, Cond.static yL_by, Cond.codeWith yL_by cL_by 5 (some .long) [(0, 69, 70, 14)], Cond.methodLink RL 71 yX0_parents, Cond.instanceMethod yX0_parents, Cond.selects RX0 yX0_parents yX0_parents, Cond.code yX0_parents cX0_parents 2 (some .long), Cond.methodLink RL 74 yX0_lengthOf, Cond.instanceMethod yX0_lengthOf, Cond.selects RX0 yX0_lengthOf yX0_lengthOf, Cond.code yX0_lengthOf cX0_lengthOf 2 (some .int), Cond.methodLink RL 77 yX0_letterOf, Cond.instanceMethod yX0_letterOf, Cond.selects RX0 yX0_letterOf yX0_letterOf, Cond.code yX0_letterOf cX0_letterOf 3 (some .int), Cond.methodLink RL 80 yX0_isLater, Cond.instanceMethod yX0_isLater]
def wsL_law0_r11 : List Cond := [Cond.selects RX0 yX0_isLater yX0_isLater, Cond.code yX0_isLater cX0_isLater 3 (some .boolean), Cond.methodLink RL 84 yX0_authorOf, Cond.instanceMethod yX0_authorOf, Cond.selects RX0 yX0_authorOf yX0_authorOf, Cond.code yX0_authorOf cX0_authorOf 2 (some .int)]
def wsL_law0 : List Cond := (wsL_law0_r1 ++ (wsL_law0_r2 ++ (wsL_law0_r3 ++ (wsL_law0_r4 ++ (wsL_law0_r5 ++ (wsL_law0_r6 ++ (wsL_law0_r7 ++ (wsL_law0_r8 ++ (wsL_law0_r9 ++ (wsL_law0_r10 ++ wsL_law0_r11)))))))))) ++ wsX00 ++ ([] : List Cond)
def wsL_law : List Cond := wsL_law0 ++ (vx_atS RX0 130 "java/lang/IndexOutOfBoundsException" ["java/lang/RuntimeException", "java/lang/Exception"]).filter goodWord ++ (vx_atS RX0 70 "java/lang/IllegalArgumentException" ["java/lang/RuntimeException", "java/lang/Exception"]).filter goodWord ++ (vx_atS RX0 142 "java/lang/IllegalStateException" ["java/lang/RuntimeException", "java/lang/Exception"]).filter goodWord
abbrev vwCl : List vw_C := [(RX0, TX0, 14)]
end
section
set_option maxRecDepth 20000 in
theorem wsL_law_in0_r1 : ∀ w ∈ wsL_law0_r1, w ∈ lw_tbl := fun w h => (goodIn_p wsL_law0_r1 [36, 39] (by decide +kernel) (by decide +kernel) w h).1
set_option maxRecDepth 20000 in
theorem wsL_law_in0_r2 : ∀ w ∈ wsL_law0_r2, w ∈ lw_tbl := fun w h => (goodIn_p wsL_law0_r2 [91, 88, 303, 106] (by decide +kernel) (by decide +kernel) w h).1
set_option maxRecDepth 20000 in
theorem wsL_law_in0_r3 : ∀ w ∈ wsL_law0_r3, w ∈ lw_tbl := fun w h => (goodIn_p wsL_law0_r3 [178, 182, 185, 188, 192, 197] (by decide +kernel) (by decide +kernel) w h).1
set_option maxRecDepth 20000 in
theorem wsL_law_in0_r4 : ∀ w ∈ wsL_law0_r4, w ∈ lw_tbl := fun w h => (goodIn_p wsL_law0_r4 [201, 205, 307, 311, 296, 280] (by decide +kernel) (by decide +kernel) w h).1
set_option maxRecDepth 20000 in
theorem wsL_law_in0_r5 : ∀ w ∈ wsL_law0_r5, w ∈ lw_tbl := fun w h => (goodIn_p wsL_law0_r5 [315, 319, 323, 327, 331] (by decide +kernel) (by decide +kernel) w h).1
set_option maxRecDepth 20000 in
theorem wsL_law_in0_r6 : ∀ w ∈ wsL_law0_r6, w ∈ lw_tbl := fun w h => (goodIn_p wsL_law0_r6 [335, 209, 339, 343, 347, 351] (by decide +kernel) (by decide +kernel) w h).1
set_option maxRecDepth 20000 in
theorem wsL_law_in0_r7 : ∀ w ∈ wsL_law0_r7, w ∈ lw_tbl := fun w h => (goodIn_p wsL_law0_r7 [102, 230, 250, 254] (by decide +kernel) (by decide +kernel) w h).1
set_option maxRecDepth 20000 in
theorem wsL_law_in0_r8 : ∀ w ∈ wsL_law0_r8, w ∈ lw_tbl := fun w h => (goodIn_p wsL_law0_r8 [258, 262, 269, 273, 277] (by decide +kernel) (by decide +kernel) w h).1
set_option maxRecDepth 20000 in
theorem wsL_law_in0_r9 : ∀ w ∈ wsL_law0_r9, w ∈ lw_tbl := fun w h => (goodIn_p wsL_law0_r9 [287, 291, 358, 362, 366] (by decide +kernel) (by decide +kernel) w h).1
set_option maxRecDepth 20000 in
theorem wsL_law_in0_r10 : ∀ w ∈ wsL_law0_r10, w ∈ lw_tbl := fun w h => (goodIn_p wsL_law0_r10 [370, 374, 382, 386, 390] (by decide +kernel) (by decide +kernel) w h).1
set_option maxRecDepth 20000 in
theorem wsL_law_in0_r11 : ∀ w ∈ wsL_law0_r11, w ∈ lw_tbl := fun w h => (goodIn_p wsL_law0_r11 [394, 398] (by decide +kernel) (by decide +kernel) w h).1
theorem wsL_law_in0 : ∀ w ∈ wsL_law0, w ∈ lw_tbl := List.forall_mem_append.mpr ⟨List.forall_mem_append.mpr ⟨List.forall_mem_append.mpr ⟨wsL_law_in0_r1, List.forall_mem_append.mpr ⟨wsL_law_in0_r2, List.forall_mem_append.mpr ⟨wsL_law_in0_r3, List.forall_mem_append.mpr ⟨wsL_law_in0_r4, List.forall_mem_append.mpr ⟨wsL_law_in0_r5, List.forall_mem_append.mpr ⟨wsL_law_in0_r6, List.forall_mem_append.mpr ⟨wsL_law_in0_r7, List.forall_mem_append.mpr ⟨wsL_law_in0_r8, List.forall_mem_append.mpr ⟨wsL_law_in0_r9, List.forall_mem_append.mpr ⟨wsL_law_in0_r10, wsL_law_in0_r11⟩⟩⟩⟩⟩⟩⟩⟩⟩⟩, by decide +kernel⟩, fun _ h => absurd h List.not_mem_nil⟩
theorem wsL_law_x0 : ∀ w ∈ (vx_atS RX0 130 "java/lang/IndexOutOfBoundsException" ["java/lang/RuntimeException", "java/lang/Exception"]).filter goodWord, w ∈ lw_tbl := by decide +kernel
theorem wsL_law_x1 : ∀ w ∈ (vx_atS RX0 70 "java/lang/IllegalArgumentException" ["java/lang/RuntimeException", "java/lang/Exception"]).filter goodWord, w ∈ lw_tbl := by decide +kernel
theorem wsL_law_x2 : ∀ w ∈ (vx_atS RX0 142 "java/lang/IllegalStateException" ["java/lang/RuntimeException", "java/lang/Exception"]).filter goodWord, w ∈ lw_tbl := by decide +kernel
theorem wsL_law_in : ∀ w ∈ wsL_law, w ∈ lw_tbl := fun w h => (List.mem_append.mp h).elim (fun h => (List.mem_append.mp h).elim (fun h => (List.mem_append.mp h).elim (fun h => wsL_law_in0 w h) (fun h => wsL_law_x0 w h)) (fun h => wsL_law_x1 w h)) (fun h => wsL_law_x2 w h)
theorem inlX0 : ∀ w ∈ wsX00, w ∈ wsL_law := fun _ h => List.mem_append_left _ (List.mem_append_left _ (List.mem_append_left _ (List.mem_append_left _ (List.mem_append_right _ h))))
theorem inX0 : ∀ w ∈ wsX00, w ∈ lw_tbl := fun w h => wsL_law_in w (inlX0 w h)
theorem inX1 : ∀ w ∈ wsX10, w ∈ lw_tbl := by decide +kernel
theorem inJ13 : ∀ w ∈ wsJ130, w ∈ lw_tbl := by decide +kernel
theorem inJ0 : ∀ w ∈ wsJ00, w ∈ lw_tbl := by decide +kernel
end
section
theorem dX0_init_0 : decode cX0_init 0 = .ok (.aload_n 0, 1) := by decide +kernel
theorem dX0_init_1 : decode cX0_init 1 = .ok (.invokespecial 1, 3) := by decide +kernel
theorem dX0_init_4 : decode cX0_init 4 = .ok (.aload_n 0, 1) := by decide +kernel
theorem dX0_init_5 : decode cX0_init 5 = .ok (.iconst 0, 1) := by decide +kernel
theorem dX0_init_6 : decode cX0_init 6 = .ok (.putfield 7, 3) := by decide +kernel
theorem dX0_init_9 : decode cX0_init 9 = .ok (.aload_n 0, 1) := by decide +kernel
theorem dX0_init_10 : decode cX0_init 10 = .ok (.bipush 60, 2) := by decide +kernel
theorem dX0_init_12 : decode cX0_init 12 = .ok (.newarray .int, 2) := by decide +kernel
theorem dX0_init_14 : decode cX0_init 14 = .ok (.putfield 13, 3) := by decide +kernel
theorem dX0_init_17 : decode cX0_init 17 = .ok (.aload_n 0, 1) := by decide +kernel
theorem dX0_init_18 : decode cX0_init 18 = .ok (.bipush 60, 2) := by decide +kernel
theorem dX0_init_20 : decode cX0_init 20 = .ok (.newarray .int, 2) := by decide +kernel
theorem dX0_init_22 : decode cX0_init 22 = .ok (.putfield 17, 3) := by decide +kernel
theorem dX0_init_25 : decode cX0_init 25 = .ok (.aload_n 0, 1) := by decide +kernel
theorem dX0_init_26 : decode cX0_init 26 = .ok (.bipush 60, 2) := by decide +kernel
theorem dX0_init_28 : decode cX0_init 28 = .ok (.newarray .int, 2) := by decide +kernel
theorem dX0_init_30 : decode cX0_init 30 = .ok (.putfield 20, 3) := by decide +kernel
theorem dX0_init_33 : decode cX0_init 33 = .ok (.aload_n 0, 1) := by decide +kernel
theorem dX0_init_34 : decode cX0_init 34 = .ok (.bipush 60, 2) := by decide +kernel
theorem dX0_init_36 : decode cX0_init 36 = .ok (.newarray .long, 2) := by decide +kernel
theorem dX0_init_38 : decode cX0_init 38 = .ok (.putfield 23, 3) := by decide +kernel
theorem dX0_init_41 : decode cX0_init 41 = .ok (.aload_n 0, 1) := by decide +kernel
theorem dX0_init_42 : decode cX0_init 42 = .ok (.bipush 60, 2) := by decide +kernel
theorem dX0_init_44 : decode cX0_init 44 = .ok (.newarray .long, 2) := by decide +kernel
theorem dX0_init_46 : decode cX0_init 46 = .ok (.putfield 27, 3) := by decide +kernel
theorem dX0_init_49 : decode cX0_init 49 = .ok (.aload_n 0, 1) := by decide +kernel
theorem dX0_init_50 : decode cX0_init 50 = .ok (.bipush 60, 2) := by decide +kernel
theorem dX0_init_52 : decode cX0_init 52 = .ok (.newarray .long, 2) := by decide +kernel
theorem dX0_init_54 : decode cX0_init 54 = .ok (.putfield 30, 3) := by decide +kernel
theorem dX0_init_57 : decode cX0_init 57 = .ok (.aload_n 0, 1) := by decide +kernel
theorem dX0_init_58 : decode cX0_init 58 = .ok (.iconst 4, 1) := by decide +kernel
theorem dX0_init_59 : decode cX0_init 59 = .ok (.newarray .long, 2) := by decide +kernel
theorem dX0_init_61 : decode cX0_init 61 = .ok (.putfield 33, 3) := by decide +kernel
theorem dX0_init_64 : decode cX0_init 64 = .ok (.aload_n 0, 1) := by decide +kernel
theorem dX0_init_65 : decode cX0_init 65 = .ok (.iconst (-1), 1) := by decide +kernel
theorem dX0_init_66 : decode cX0_init 66 = .ok (.putfield 36, 3) := by decide +kernel
theorem dX0_init_69 : decode cX0_init 69 = .ok (.aload_n 0, 1) := by decide +kernel
theorem dX0_init_70 : decode cX0_init 70 = .ok (.bipush 60, 2) := by decide +kernel
theorem dX0_init_72 : decode cX0_init 72 = .ok (.newarray .int, 2) := by decide +kernel
theorem dX0_init_74 : decode cX0_init 74 = .ok (.putfield 39, 3) := by decide +kernel
theorem dX0_init_77 : decode cX0_init 77 = .ok (.aload_n 0, 1) := by decide +kernel
theorem dX0_init_78 : decode cX0_init 78 = .ok (.bipush 60, 2) := by decide +kernel
theorem dX0_init_80 : decode cX0_init 80 = .ok (.newarray .int, 2) := by decide +kernel
theorem dX0_init_82 : decode cX0_init 82 = .ok (.putfield 42, 3) := by decide +kernel
theorem dX0_init_85 : decode cX0_init 85 = .ok (.aload_n 0, 1) := by decide +kernel
theorem dX0_init_86 : decode cX0_init 86 = .ok (.bipush 60, 2) := by decide +kernel
theorem dX0_init_88 : decode cX0_init 88 = .ok (.newarray .int, 2) := by decide +kernel
theorem dX0_init_90 : decode cX0_init 90 = .ok (.putfield 45, 3) := by decide +kernel
theorem dX0_init_93 : decode cX0_init 93 = .ok (.aload_n 0, 1) := by decide +kernel
theorem dX0_init_94 : decode cX0_init 94 = .ok (.bipush 60, 2) := by decide +kernel
theorem dX0_init_96 : decode cX0_init 96 = .ok (.newarray .int, 2) := by decide +kernel
theorem dX0_init_98 : decode cX0_init 98 = .ok (.putfield 48, 3) := by decide +kernel
theorem dX0_init_101 : decode cX0_init 101 = .ok (.aload_n 0, 1) := by decide +kernel
theorem dX0_init_102 : decode cX0_init 102 = .ok (.bipush 60, 2) := by decide +kernel
theorem dX0_init_104 : decode cX0_init 104 = .ok (.newarray .int, 2) := by decide +kernel
theorem dX0_init_106 : decode cX0_init 106 = .ok (.putfield 51, 3) := by decide +kernel
theorem dX0_init_109 : decode cX0_init 109 = .ok (.return_, 1) := by decide +kernel
set_option maxRecDepth 20000 in
theorem ggX0_insert_X0_checkAuthor : GoodIn wsX0_insert wsX0_checkAuthor := goodIn_ca (goodIn_r _ [9, 10, 11] (by decide +kernel) (by decide +kernel)) (goodIn_sub (fun _ h => List.mem_cons_of_mem _ (List.mem_append_left _ (List.mem_append_right _ h))) (by decide +kernel))
set_option maxRecDepth 20000 in
theorem gX0_insert_X0_checkAuthor : GoodIn wsX0_insert (wsV RX0 54 RX0 yX0_checkAuthor wsX0_checkAuthor) := goodIn_app (goodIn_of _ (by decide +kernel)) ggX0_insert_X0_checkAuthor
set_option maxRecDepth 20000 in
theorem ggX0_insert_X0_findText : GoodIn wsX0_insert wsX0_findText := goodIn_r _ [15, 16, 17, 18, 19, 20, 21, 22, 8, 23, 24, 25, 26, 27, 28, 29, 30, 31, 32, 33, 34, 35, 36, 37, 38, 39, 40, 41, 42, 43, 44, 45, 46, 47, 48, 49, 4, 80, 81, 82, 83, 84, 85, 86, 87, 88, 89, 90, 91, 92, 93] (by decide +kernel) (by decide +kernel)
set_option maxRecDepth 20000 in
theorem gX0_insert_X0_findText : GoodIn wsX0_insert (wsV RX0 58 RX0 yX0_findText wsX0_findText) := goodIn_app (goodIn_of _ (by decide +kernel)) ggX0_insert_X0_findText
set_option maxRecDepth 20000 in
theorem ggX0_insert_X0_checkPlace : GoodIn wsX0_insert wsX0_checkPlace := goodIn_ca (goodIn_r _ [53, 10, 11] (by decide +kernel) (by decide +kernel)) (goodIn_sub (fun _ h => List.mem_cons_of_mem _ (List.mem_append_left _ (List.mem_append_right _ h))) (by decide +kernel))
set_option maxRecDepth 20000 in
theorem gX0_insert_X0_checkPlace : GoodIn wsX0_insert (wsV RX0 62 RX0 yX0_checkPlace wsX0_checkPlace) := goodIn_app (goodIn_of _ (by decide +kernel)) ggX0_insert_X0_checkPlace
set_option maxRecDepth 20000 in
theorem ggX0_insert_X0_checkRoom : GoodIn wsX0_insert wsX0_checkRoom := goodIn_ca (goodIn_r _ [57, 58, 59, 24, 80, 81, 82, 83, 84, 85, 86, 87, 88, 89, 90, 91, 92, 93] (by decide +kernel) (by decide +kernel)) (goodIn_sub (fun _ h => List.mem_cons_of_mem _ (List.mem_append_right _ h)) (by decide +kernel))
set_option maxRecDepth 20000 in
theorem gX0_insert_X0_checkRoom : GoodIn wsX0_insert (wsV RX0 73 RX0 yX0_checkRoom wsX0_checkRoom) := goodIn_app (goodIn_of _ (by decide +kernel)) ggX0_insert_X0_checkRoom
set_option maxRecDepth 20000 in
theorem ggX0_insert_X0_addEvent : GoodIn wsX0_insert wsX0_addEvent := goodIn_r _ [63, 24, 3, 64, 37, 25, 65, 66, 67, 68, 69, 8, 70, 26, 27, 28, 29, 30, 31, 32, 71, 72, 73, 74, 75, 80, 81, 82, 83, 84, 85, 86, 87, 88, 89, 90, 91, 92, 93] (by decide +kernel) (by decide +kernel)
set_option maxRecDepth 20000 in
theorem gX0_insert_X0_addEvent : GoodIn wsX0_insert (wsV RX0 76 RX0 yX0_addEvent wsX0_addEvent) := goodIn_app (goodIn_of _ (by decide +kernel)) ggX0_insert_X0_addEvent
set_option maxRecDepth 20000 in
theorem ggX0_insert_X0_hangLetter : GoodIn wsX0_insert wsX0_hangLetter := goodIn_r _ [79, 19, 18, 16, 42, 43, 44, 8, 45, 24, 80, 81, 82, 83, 84, 85, 86, 87, 88, 89, 90, 91, 92, 93] (by decide +kernel) (by decide +kernel)
set_option maxRecDepth 20000 in
theorem gX0_insert_X0_hangLetter : GoodIn wsX0_insert (wsV RX0 80 RX0 yX0_hangLetter wsX0_hangLetter) := goodIn_app (goodIn_of _ (by decide +kernel)) ggX0_insert_X0_hangLetter
theorem dX0_insert_0 : decode cX0_insert 0 = .ok (.aload_n 0, 1) := by decide +kernel
theorem dX0_insert_1 : decode cX0_insert 1 = .ok (.iload_n 1, 1) := by decide +kernel
theorem dX0_insert_2 : decode cX0_insert 2 = .ok (.invokevirtual 54, 3) := by decide +kernel
theorem dX0_insert_5 : decode cX0_insert 5 = .ok (.aload_n 0, 1) := by decide +kernel
theorem dX0_insert_6 : decode cX0_insert 6 = .ok (.aload_n 0, 1) := by decide +kernel
theorem dX0_insert_7 : decode cX0_insert 7 = .ok (.getfield 33, 3) := by decide +kernel
theorem dX0_insert_10 : decode cX0_insert 10 = .ok (.iload_n 1, 1) := by decide +kernel
theorem dX0_insert_11 : decode cX0_insert 11 = .ok (.laload, 1) := by decide +kernel
theorem dX0_insert_12 : decode cX0_insert 12 = .ok (.invokevirtual 58, 3) := by decide +kernel
theorem dX0_insert_15 : decode cX0_insert 15 = .ok (.istore 4, 2) := by decide +kernel
theorem dX0_insert_17 : decode cX0_insert 17 = .ok (.aload_n 0, 1) := by decide +kernel
theorem dX0_insert_18 : decode cX0_insert 18 = .ok (.iload_n 2, 1) := by decide +kernel
theorem dX0_insert_19 : decode cX0_insert 19 = .ok (.iload 4, 2) := by decide +kernel
theorem dX0_insert_21 : decode cX0_insert 21 = .ok (.iconst 1, 1) := by decide +kernel
theorem dX0_insert_22 : decode cX0_insert 22 = .ok (.iadd, 1) := by decide +kernel
theorem dX0_insert_23 : decode cX0_insert 23 = .ok (.invokevirtual 62, 3) := by decide +kernel
theorem dX0_insert_26 : decode cX0_insert 26 = .ok (.iload_n 3, 1) := by decide +kernel
theorem dX0_insert_27 : decode cX0_insert 27 = .ok (.ifCond .lt 9, 3) := by decide +kernel
theorem dX0_insert_30 : decode cX0_insert 30 = .ok (.iload_n 3, 1) := by decide +kernel
theorem dX0_insert_31 : decode cX0_insert 31 = .ok (.bipush 26, 2) := by decide +kernel
theorem dX0_insert_33 : decode cX0_insert 33 = .ok (.if_icmp .lt 13, 3) := by decide +kernel
theorem dX0_insert_36 : decode cX0_insert 36 = .ok (.new 66, 3) := by decide +kernel
theorem dX0_insert_39 : decode cX0_insert 39 = .ok (.dup, 1) := by decide +kernel
theorem dX0_insert_40 : decode cX0_insert 40 = .ok (.ldc 68, 2) := by decide +kernel
theorem dX0_insert_42 : decode cX0_insert 42 = .ok (.invokespecial 70, 3) := by decide +kernel
theorem dX0_insert_45 : decode cX0_insert 45 = .ok (.athrow, 1) := by decide +kernel
theorem dX0_insert_46 : decode cX0_insert 46 = .ok (.aload_n 0, 1) := by decide +kernel
theorem dX0_insert_47 : decode cX0_insert 47 = .ok (.invokevirtual 73, 3) := by decide +kernel
theorem dX0_insert_50 : decode cX0_insert 50 = .ok (.iload_n 2, 1) := by decide +kernel
theorem dX0_insert_51 : decode cX0_insert 51 = .ok (.ifCond .ne 7, 3) := by decide +kernel
theorem dX0_insert_54 : decode cX0_insert 54 = .ok (.iconst (-1), 1) := by decide +kernel
theorem dX0_insert_55 : decode cX0_insert 55 = .ok (.goto 11, 3) := by decide +kernel
theorem dX0_insert_58 : decode cX0_insert 58 = .ok (.aload_n 0, 1) := by decide +kernel
theorem dX0_insert_59 : decode cX0_insert 59 = .ok (.getfield 45, 3) := by decide +kernel
theorem dX0_insert_62 : decode cX0_insert 62 = .ok (.iload_n 2, 1) := by decide +kernel
theorem dX0_insert_63 : decode cX0_insert 63 = .ok (.iconst 1, 1) := by decide +kernel
theorem dX0_insert_64 : decode cX0_insert 64 = .ok (.isub, 1) := by decide +kernel
theorem dX0_insert_65 : decode cX0_insert 65 = .ok (.iaload, 1) := by decide +kernel
theorem dX0_insert_66 : decode cX0_insert 66 = .ok (.istore 5, 2) := by decide +kernel
theorem dX0_insert_68 : decode cX0_insert 68 = .ok (.aload_n 0, 1) := by decide +kernel
theorem dX0_insert_69 : decode cX0_insert 69 = .ok (.iload_n 1, 1) := by decide +kernel
theorem dX0_insert_70 : decode cX0_insert 70 = .ok (.iload_n 3, 1) := by decide +kernel
theorem dX0_insert_71 : decode cX0_insert 71 = .ok (.iload 5, 2) := by decide +kernel
theorem dX0_insert_73 : decode cX0_insert 73 = .ok (.invokevirtual 76, 3) := by decide +kernel
theorem dX0_insert_76 : decode cX0_insert 76 = .ok (.istore 6, 2) := by decide +kernel
theorem dX0_insert_78 : decode cX0_insert 78 = .ok (.aload_n 0, 1) := by decide +kernel
theorem dX0_insert_79 : decode cX0_insert 79 = .ok (.iload 6, 2) := by decide +kernel
theorem dX0_insert_81 : decode cX0_insert 81 = .ok (.iload 5, 2) := by decide +kernel
theorem dX0_insert_83 : decode cX0_insert 83 = .ok (.invokevirtual 80, 3) := by decide +kernel
theorem dX0_insert_86 : decode cX0_insert 86 = .ok (.iload 6, 2) := by decide +kernel
theorem dX0_insert_88 : decode cX0_insert 88 = .ok (.ireturn, 1) := by decide +kernel
set_option maxRecDepth 20000 in
theorem ggX0_delete_X0_checkAuthor : GoodIn wsX0_delete wsX0_checkAuthor := goodIn_ca (goodIn_r _ [7, 8, 9] (by decide +kernel) (by decide +kernel)) (goodIn_sub (fun _ h => List.mem_cons_of_mem _ (List.mem_append_left _ (List.mem_append_right _ h))) (by decide +kernel))
set_option maxRecDepth 20000 in
theorem gX0_delete_X0_checkAuthor : GoodIn wsX0_delete (wsV RX0 54 RX0 yX0_checkAuthor wsX0_checkAuthor) := goodIn_app (goodIn_of _ (by decide +kernel)) ggX0_delete_X0_checkAuthor
set_option maxRecDepth 20000 in
theorem ggX0_delete_X0_findText : GoodIn wsX0_delete wsX0_findText := goodIn_r _ [13, 14, 15, 16, 17, 18, 19, 20, 6, 21, 22, 23, 24, 25, 26, 27, 28, 29, 30, 31, 32, 33, 34, 35, 36, 37, 38, 39, 40, 41, 42, 43, 44, 45, 46, 47, 2, 74, 75, 76, 77, 78, 79, 80, 81, 82, 83, 84, 85, 86, 87] (by decide +kernel) (by decide +kernel)
set_option maxRecDepth 20000 in
theorem gX0_delete_X0_findText : GoodIn wsX0_delete (wsV RX0 58 RX0 yX0_findText wsX0_findText) := goodIn_app (goodIn_of _ (by decide +kernel)) ggX0_delete_X0_findText
set_option maxRecDepth 20000 in
theorem ggX0_delete_X0_checkPlace : GoodIn wsX0_delete wsX0_checkPlace := goodIn_ca (goodIn_r _ [51, 8, 9] (by decide +kernel) (by decide +kernel)) (goodIn_sub (fun _ h => List.mem_cons_of_mem _ (List.mem_append_left _ (List.mem_append_right _ h))) (by decide +kernel))
set_option maxRecDepth 20000 in
theorem gX0_delete_X0_checkPlace : GoodIn wsX0_delete (wsV RX0 62 RX0 yX0_checkPlace wsX0_checkPlace) := goodIn_app (goodIn_of _ (by decide +kernel)) ggX0_delete_X0_checkPlace
set_option maxRecDepth 20000 in
theorem ggX0_delete_X0_checkRoom : GoodIn wsX0_delete wsX0_checkRoom := goodIn_ca (goodIn_r _ [55, 56, 57, 22, 74, 75, 76, 77, 78, 79, 80, 81, 82, 83, 84, 85, 86, 87] (by decide +kernel) (by decide +kernel)) (goodIn_sub (fun _ h => List.mem_cons_of_mem _ (List.mem_append_right _ h)) (by decide +kernel))
set_option maxRecDepth 20000 in
theorem gX0_delete_X0_checkRoom : GoodIn wsX0_delete (wsV RX0 73 RX0 yX0_checkRoom wsX0_checkRoom) := goodIn_app (goodIn_of _ (by decide +kernel)) ggX0_delete_X0_checkRoom
set_option maxRecDepth 20000 in
theorem ggX0_delete_X0_addEvent : GoodIn wsX0_delete wsX0_addEvent := goodIn_r _ [61, 22, 1, 62, 35, 23, 63, 64, 65, 66, 67, 6, 68, 24, 25, 26, 27, 28, 29, 30, 69, 70, 71, 72, 73, 74, 75, 76, 77, 78, 79, 80, 81, 82, 83, 84, 85, 86, 87] (by decide +kernel) (by decide +kernel)
set_option maxRecDepth 20000 in
theorem gX0_delete_X0_addEvent : GoodIn wsX0_delete (wsV RX0 76 RX0 yX0_addEvent wsX0_addEvent) := goodIn_app (goodIn_of _ (by decide +kernel)) ggX0_delete_X0_addEvent
theorem dX0_delete_0 : decode cX0_delete 0 = .ok (.aload_n 0, 1) := by decide +kernel
theorem dX0_delete_1 : decode cX0_delete 1 = .ok (.iload_n 1, 1) := by decide +kernel
theorem dX0_delete_2 : decode cX0_delete 2 = .ok (.invokevirtual 54, 3) := by decide +kernel
theorem dX0_delete_5 : decode cX0_delete 5 = .ok (.aload_n 0, 1) := by decide +kernel
theorem dX0_delete_6 : decode cX0_delete 6 = .ok (.aload_n 0, 1) := by decide +kernel
theorem dX0_delete_7 : decode cX0_delete 7 = .ok (.getfield 33, 3) := by decide +kernel
theorem dX0_delete_10 : decode cX0_delete 10 = .ok (.iload_n 1, 1) := by decide +kernel
theorem dX0_delete_11 : decode cX0_delete 11 = .ok (.laload, 1) := by decide +kernel
theorem dX0_delete_12 : decode cX0_delete 12 = .ok (.invokevirtual 58, 3) := by decide +kernel
theorem dX0_delete_15 : decode cX0_delete 15 = .ok (.istore_n 3, 1) := by decide +kernel
theorem dX0_delete_16 : decode cX0_delete 16 = .ok (.aload_n 0, 1) := by decide +kernel
theorem dX0_delete_17 : decode cX0_delete 17 = .ok (.iload_n 2, 1) := by decide +kernel
theorem dX0_delete_18 : decode cX0_delete 18 = .ok (.iload_n 3, 1) := by decide +kernel
theorem dX0_delete_19 : decode cX0_delete 19 = .ok (.invokevirtual 62, 3) := by decide +kernel
theorem dX0_delete_22 : decode cX0_delete 22 = .ok (.aload_n 0, 1) := by decide +kernel
theorem dX0_delete_23 : decode cX0_delete 23 = .ok (.invokevirtual 73, 3) := by decide +kernel
theorem dX0_delete_26 : decode cX0_delete 26 = .ok (.aload_n 0, 1) := by decide +kernel
theorem dX0_delete_27 : decode cX0_delete 27 = .ok (.iload_n 1, 1) := by decide +kernel
theorem dX0_delete_28 : decode cX0_delete 28 = .ok (.iconst (-1), 1) := by decide +kernel
theorem dX0_delete_29 : decode cX0_delete 29 = .ok (.aload_n 0, 1) := by decide +kernel
theorem dX0_delete_30 : decode cX0_delete 30 = .ok (.getfield 45, 3) := by decide +kernel
theorem dX0_delete_33 : decode cX0_delete 33 = .ok (.iload_n 2, 1) := by decide +kernel
theorem dX0_delete_34 : decode cX0_delete 34 = .ok (.iaload, 1) := by decide +kernel
theorem dX0_delete_35 : decode cX0_delete 35 = .ok (.invokevirtual 76, 3) := by decide +kernel
theorem dX0_delete_38 : decode cX0_delete 38 = .ok (.ireturn, 1) := by decide +kernel
set_option maxRecDepth 20000 in
theorem ggX0_learn_X0_checkAuthor : GoodIn wsX0_learn wsX0_checkAuthor := goodIn_ca (goodIn_r _ [6, 7, 8] (by decide +kernel) (by decide +kernel)) (goodIn_sub (fun _ h => List.mem_cons_of_mem _ (List.mem_append_right _ h)) (by decide +kernel))
set_option maxRecDepth 20000 in
theorem gX0_learn_X0_checkAuthor : GoodIn wsX0_learn (wsV RX0 54 RX0 yX0_checkAuthor wsX0_checkAuthor) := goodIn_app (goodIn_of _ (by decide +kernel)) ggX0_learn_X0_checkAuthor
set_option maxRecDepth 20000 in
theorem ggX0_learn_X0_addKnown : GoodIn wsX0_learn wsX0_addKnown := goodIn_r _ [12, 1, 13, 14, 15, 16, 17, 18, 19, 20, 21, 22, 23, 24, 25, 26, 27, 28, 29, 30, 31, 32, 33, 34] (by decide +kernel) (by decide +kernel)
set_option maxRecDepth 20000 in
theorem gX0_learn_X0_addKnown : GoodIn wsX0_learn (wsV RX0 83 RX0 yX0_addKnown wsX0_addKnown) := goodIn_app (goodIn_of _ (by decide +kernel)) ggX0_learn_X0_addKnown
theorem dX0_learn_0 : decode cX0_learn 0 = .ok (.aload_n 0, 1) := by decide +kernel
theorem dX0_learn_1 : decode cX0_learn 1 = .ok (.iload_n 1, 1) := by decide +kernel
theorem dX0_learn_2 : decode cX0_learn 2 = .ok (.invokevirtual 54, 3) := by decide +kernel
theorem dX0_learn_5 : decode cX0_learn 5 = .ok (.aload_n 0, 1) := by decide +kernel
theorem dX0_learn_6 : decode cX0_learn 6 = .ok (.iload_n 2, 1) := by decide +kernel
theorem dX0_learn_7 : decode cX0_learn 7 = .ok (.invokevirtual 54, 3) := by decide +kernel
theorem dX0_learn_10 : decode cX0_learn 10 = .ok (.aload_n 0, 1) := by decide +kernel
theorem dX0_learn_11 : decode cX0_learn 11 = .ok (.iload_n 1, 1) := by decide +kernel
theorem dX0_learn_12 : decode cX0_learn 12 = .ok (.aload_n 0, 1) := by decide +kernel
theorem dX0_learn_13 : decode cX0_learn 13 = .ok (.getfield 33, 3) := by decide +kernel
theorem dX0_learn_16 : decode cX0_learn 16 = .ok (.iload_n 2, 1) := by decide +kernel
theorem dX0_learn_17 : decode cX0_learn 17 = .ok (.laload, 1) := by decide +kernel
theorem dX0_learn_18 : decode cX0_learn 18 = .ok (.invokevirtual 83, 3) := by decide +kernel
theorem dX0_learn_21 : decode cX0_learn 21 = .ok (.ireturn, 1) := by decide +kernel
set_option maxRecDepth 20000 in
theorem ggX0_learnEvent_X0_checkAuthor : GoodIn wsX0_learnEvent wsX0_checkAuthor := goodIn_ca (goodIn_r _ [5, 6, 7] (by decide +kernel) (by decide +kernel)) (goodIn_sub (fun _ h => List.mem_cons_of_mem _ (List.mem_append_right _ h)) (by decide +kernel))
set_option maxRecDepth 20000 in
theorem gX0_learnEvent_X0_checkAuthor : GoodIn wsX0_learnEvent (wsV RX0 54 RX0 yX0_checkAuthor wsX0_checkAuthor) := goodIn_app (goodIn_of _ (by decide +kernel)) ggX0_learnEvent_X0_checkAuthor
set_option maxRecDepth 20000 in
theorem ggX0_learnEvent_X0_checkEvent : GoodIn wsX0_learnEvent wsX0_checkEvent := goodIn_ca (goodIn_r _ [11, 6, 7, 12, 13, 14, 4, 15, 16, 38, 39, 40, 41, 42, 43, 44, 45, 46, 47, 48, 49, 50, 51] (by decide +kernel) (by decide +kernel)) (goodIn_sub (fun _ h => List.mem_cons_of_mem _ (List.mem_append_right _ h)) (by decide +kernel))
set_option maxRecDepth 20000 in
theorem gX0_learnEvent_X0_checkEvent : GoodIn wsX0_learnEvent (wsV RX0 87 RX0 yX0_checkEvent wsX0_checkEvent) := goodIn_app (goodIn_of _ (by decide +kernel)) ggX0_learnEvent_X0_checkEvent
set_option maxRecDepth 20000 in
theorem ggX0_learnEvent_X0_versionOfEvent : GoodIn wsX0_learnEvent wsX0_versionOfEvent := goodIn_r _ [20, 21, 22, 23, 4, 24, 38, 39, 40, 41, 42, 43, 44, 45, 46, 47, 48, 49, 50, 51] (by decide +kernel) (by decide +kernel)
set_option maxRecDepth 20000 in
theorem gX0_learnEvent_X0_versionOfEvent : GoodIn wsX0_learnEvent (wsV RX0 90 RX0 yX0_versionOfEvent wsX0_versionOfEvent) := goodIn_app (goodIn_of _ (by decide +kernel)) ggX0_learnEvent_X0_versionOfEvent
set_option maxRecDepth 20000 in
theorem ggX0_learnEvent_X0_addKnown : GoodIn wsX0_learnEvent wsX0_addKnown := goodIn_r _ [28, 29, 30, 31, 32, 33, 34, 35, 36, 37, 38, 39, 40, 41, 42, 43, 44, 45, 46, 47, 48, 49, 50, 51] (by decide +kernel) (by decide +kernel)
set_option maxRecDepth 20000 in
theorem gX0_learnEvent_X0_addKnown : GoodIn wsX0_learnEvent (wsV RX0 83 RX0 yX0_addKnown wsX0_addKnown) := goodIn_app (goodIn_of _ (by decide +kernel)) ggX0_learnEvent_X0_addKnown
theorem dX0_learnEvent_0 : decode cX0_learnEvent 0 = .ok (.aload_n 0, 1) := by decide +kernel
theorem dX0_learnEvent_1 : decode cX0_learnEvent 1 = .ok (.iload_n 1, 1) := by decide +kernel
theorem dX0_learnEvent_2 : decode cX0_learnEvent 2 = .ok (.invokevirtual 54, 3) := by decide +kernel
theorem dX0_learnEvent_5 : decode cX0_learnEvent 5 = .ok (.aload_n 0, 1) := by decide +kernel
theorem dX0_learnEvent_6 : decode cX0_learnEvent 6 = .ok (.iload_n 2, 1) := by decide +kernel
theorem dX0_learnEvent_7 : decode cX0_learnEvent 7 = .ok (.invokevirtual 87, 3) := by decide +kernel
theorem dX0_learnEvent_10 : decode cX0_learnEvent 10 = .ok (.aload_n 0, 1) := by decide +kernel
theorem dX0_learnEvent_11 : decode cX0_learnEvent 11 = .ok (.iload_n 1, 1) := by decide +kernel
theorem dX0_learnEvent_12 : decode cX0_learnEvent 12 = .ok (.aload_n 0, 1) := by decide +kernel
theorem dX0_learnEvent_13 : decode cX0_learnEvent 13 = .ok (.iload_n 2, 1) := by decide +kernel
theorem dX0_learnEvent_14 : decode cX0_learnEvent 14 = .ok (.invokevirtual 90, 3) := by decide +kernel
theorem dX0_learnEvent_17 : decode cX0_learnEvent 17 = .ok (.invokevirtual 83, 3) := by decide +kernel
theorem dX0_learnEvent_20 : decode cX0_learnEvent 20 = .ok (.ireturn, 1) := by decide +kernel
theorem dX0_events_0 : decode cX0_events 0 = .ok (.aload_n 0, 1) := by decide +kernel
theorem dX0_events_1 : decode cX0_events 1 = .ok (.getfield 7, 3) := by decide +kernel
theorem dX0_events_4 : decode cX0_events 4 = .ok (.ireturn, 1) := by decide +kernel
set_option maxRecDepth 20000 in
theorem ggX0_length_X0_checkAuthor : GoodIn wsX0_length wsX0_checkAuthor := goodIn_ca (goodIn_r _ [6, 7, 8] (by decide +kernel) (by decide +kernel)) (goodIn_sub (fun _ h => List.mem_cons_of_mem _ (List.mem_append_right _ h)) (by decide +kernel))
set_option maxRecDepth 20000 in
theorem gX0_length_X0_checkAuthor : GoodIn wsX0_length (wsV RX0 54 RX0 yX0_checkAuthor wsX0_checkAuthor) := goodIn_app (goodIn_of _ (by decide +kernel)) ggX0_length_X0_checkAuthor
set_option maxRecDepth 20000 in
theorem ggX0_length_X0_findText : GoodIn wsX0_length wsX0_findText := goodIn_r _ [12, 13, 14, 15, 16, 17, 18, 19, 5, 20, 21, 22, 23, 24, 25, 26, 27, 28, 29, 30, 31, 32, 33, 34, 35, 36, 37, 38, 39, 40, 41, 42, 43, 44, 45, 46, 47, 48, 49, 50, 51, 52, 53, 54, 55, 56, 57, 58, 59, 60, 61] (by decide +kernel) (by decide +kernel)
set_option maxRecDepth 20000 in
theorem gX0_length_X0_findText : GoodIn wsX0_length (wsV RX0 58 RX0 yX0_findText wsX0_findText) := goodIn_app (goodIn_of _ (by decide +kernel)) ggX0_length_X0_findText
theorem dX0_length_0 : decode cX0_length 0 = .ok (.aload_n 0, 1) := by decide +kernel
theorem dX0_length_1 : decode cX0_length 1 = .ok (.iload_n 1, 1) := by decide +kernel
theorem dX0_length_2 : decode cX0_length 2 = .ok (.invokevirtual 54, 3) := by decide +kernel
theorem dX0_length_5 : decode cX0_length 5 = .ok (.aload_n 0, 1) := by decide +kernel
theorem dX0_length_6 : decode cX0_length 6 = .ok (.aload_n 0, 1) := by decide +kernel
theorem dX0_length_7 : decode cX0_length 7 = .ok (.getfield 33, 3) := by decide +kernel
theorem dX0_length_10 : decode cX0_length 10 = .ok (.iload_n 1, 1) := by decide +kernel
theorem dX0_length_11 : decode cX0_length 11 = .ok (.laload, 1) := by decide +kernel
theorem dX0_length_12 : decode cX0_length 12 = .ok (.invokevirtual 58, 3) := by decide +kernel
theorem dX0_length_15 : decode cX0_length 15 = .ok (.ireturn, 1) := by decide +kernel
set_option maxRecDepth 20000 in
theorem ggX0_letterAt_X0_checkAuthor : GoodIn wsX0_letterAt wsX0_checkAuthor := goodIn_ca (goodIn_r _ [7, 8, 9] (by decide +kernel) (by decide +kernel)) (goodIn_sub (fun _ h => List.mem_cons_of_mem _ (List.mem_append_right _ h)) (by decide +kernel))
set_option maxRecDepth 20000 in
theorem gX0_letterAt_X0_checkAuthor : GoodIn wsX0_letterAt (wsV RX0 54 RX0 yX0_checkAuthor wsX0_checkAuthor) := goodIn_app (goodIn_of _ (by decide +kernel)) ggX0_letterAt_X0_checkAuthor
set_option maxRecDepth 20000 in
theorem ggX0_letterAt_X0_eventInText : GoodIn wsX0_letterAt wsX0_eventInText := goodIn_ca (goodIn_r _ [13, 14, 15, 16, 17, 6, 18, 19, 20, 21, 22, 23, 24, 25, 26, 27, 28, 29, 30, 31, 32, 33, 34, 35, 36, 37, 38, 39, 1, 40, 41, 42, 43, 44, 45, 46, 47, 48, 49, 50, 51, 52, 53, 54, 55, 8, 9, 56, 57, 58, 59, 60, 61, 62, 63, 64, 65, 66, 67, 68, 69] (by decide +kernel) (by decide +kernel)) (goodIn_sub (fun _ h => List.mem_cons_of_mem _ (List.mem_append_right _ h)) (by decide +kernel))
set_option maxRecDepth 20000 in
theorem gX0_letterAt_X0_eventInText : GoodIn wsX0_letterAt (wsV RX0 94 RX0 yX0_eventInText wsX0_eventInText) := goodIn_app (goodIn_of _ (by decide +kernel)) ggX0_letterAt_X0_eventInText
theorem dX0_letterAt_0 : decode cX0_letterAt 0 = .ok (.aload_n 0, 1) := by decide +kernel
theorem dX0_letterAt_1 : decode cX0_letterAt 1 = .ok (.iload_n 1, 1) := by decide +kernel
theorem dX0_letterAt_2 : decode cX0_letterAt 2 = .ok (.invokevirtual 54, 3) := by decide +kernel
theorem dX0_letterAt_5 : decode cX0_letterAt 5 = .ok (.aload_n 0, 1) := by decide +kernel
theorem dX0_letterAt_6 : decode cX0_letterAt 6 = .ok (.getfield 17, 3) := by decide +kernel
theorem dX0_letterAt_9 : decode cX0_letterAt 9 = .ok (.aload_n 0, 1) := by decide +kernel
theorem dX0_letterAt_10 : decode cX0_letterAt 10 = .ok (.aload_n 0, 1) := by decide +kernel
theorem dX0_letterAt_11 : decode cX0_letterAt 11 = .ok (.getfield 33, 3) := by decide +kernel
theorem dX0_letterAt_14 : decode cX0_letterAt 14 = .ok (.iload_n 1, 1) := by decide +kernel
theorem dX0_letterAt_15 : decode cX0_letterAt 15 = .ok (.laload, 1) := by decide +kernel
theorem dX0_letterAt_16 : decode cX0_letterAt 16 = .ok (.iload_n 2, 1) := by decide +kernel
theorem dX0_letterAt_17 : decode cX0_letterAt 17 = .ok (.invokevirtual 94, 3) := by decide +kernel
theorem dX0_letterAt_20 : decode cX0_letterAt 20 = .ok (.iaload, 1) := by decide +kernel
theorem dX0_letterAt_21 : decode cX0_letterAt 21 = .ok (.ireturn, 1) := by decide +kernel
set_option maxRecDepth 20000 in
theorem ggX0_letterByList_X0_checkAuthor : GoodIn wsX0_letterByList wsX0_checkAuthor := goodIn_ca (goodIn_r _ [8, 9, 10] (by decide +kernel) (by decide +kernel)) (goodIn_sub (fun _ h => List.mem_cons_of_mem _ (List.mem_append_right _ h)) (by decide +kernel))
set_option maxRecDepth 20000 in
theorem gX0_letterByList_X0_checkAuthor : GoodIn wsX0_letterByList (wsV RX0 54 RX0 yX0_checkAuthor wsX0_checkAuthor) := goodIn_app (goodIn_of _ (by decide +kernel)) ggX0_letterByList_X0_checkAuthor
set_option maxRecDepth 20000 in
theorem ggX0_letterByList_X0_findTextByList : GoodIn wsX0_letterByList wsX0_findTextByList := goodIn_r _ [14, 15, 16, 17, 18, 7, 19, 20, 21, 22, 23, 24, 25, 26, 27, 28, 29, 30, 31, 32, 2, 33, 34, 35, 36, 37, 38, 39, 40, 41, 42, 43, 44, 3, 49, 50, 51, 52, 53, 54, 55, 56, 57, 58, 59, 60, 61, 62] (by decide +kernel) (by decide +kernel)
set_option maxRecDepth 20000 in
theorem gX0_letterByList_X0_findTextByList : GoodIn wsX0_letterByList (wsV RX0 98 RX0 yX0_findTextByList wsX0_findTextByList) := goodIn_app (goodIn_of _ (by decide +kernel)) ggX0_letterByList_X0_findTextByList
set_option maxRecDepth 20000 in
theorem ggX0_letterByList_X0_checkPlace : GoodIn wsX0_letterByList wsX0_checkPlace := goodIn_ca (goodIn_r _ [48, 9, 10] (by decide +kernel) (by decide +kernel)) (goodIn_sub (fun _ h => List.mem_cons_of_mem _ (List.mem_append_right _ h)) (by decide +kernel))
set_option maxRecDepth 20000 in
theorem gX0_letterByList_X0_checkPlace : GoodIn wsX0_letterByList (wsV RX0 62 RX0 yX0_checkPlace wsX0_checkPlace) := goodIn_app (goodIn_of _ (by decide +kernel)) ggX0_letterByList_X0_checkPlace
theorem dX0_letterByList_0 : decode cX0_letterByList 0 = .ok (.aload_n 0, 1) := by decide +kernel
theorem dX0_letterByList_1 : decode cX0_letterByList 1 = .ok (.iload_n 1, 1) := by decide +kernel
theorem dX0_letterByList_2 : decode cX0_letterByList 2 = .ok (.invokevirtual 54, 3) := by decide +kernel
theorem dX0_letterByList_5 : decode cX0_letterByList 5 = .ok (.aload_n 0, 1) := by decide +kernel
theorem dX0_letterByList_6 : decode cX0_letterByList 6 = .ok (.aload_n 0, 1) := by decide +kernel
theorem dX0_letterByList_7 : decode cX0_letterByList 7 = .ok (.getfield 33, 3) := by decide +kernel
theorem dX0_letterByList_10 : decode cX0_letterByList 10 = .ok (.iload_n 1, 1) := by decide +kernel
theorem dX0_letterByList_11 : decode cX0_letterByList 11 = .ok (.laload, 1) := by decide +kernel
theorem dX0_letterByList_12 : decode cX0_letterByList 12 = .ok (.invokevirtual 98, 3) := by decide +kernel
theorem dX0_letterByList_15 : decode cX0_letterByList 15 = .ok (.istore_n 3, 1) := by decide +kernel
theorem dX0_letterByList_16 : decode cX0_letterByList 16 = .ok (.aload_n 0, 1) := by decide +kernel
theorem dX0_letterByList_17 : decode cX0_letterByList 17 = .ok (.iload_n 2, 1) := by decide +kernel
theorem dX0_letterByList_18 : decode cX0_letterByList 18 = .ok (.iload_n 3, 1) := by decide +kernel
theorem dX0_letterByList_19 : decode cX0_letterByList 19 = .ok (.invokevirtual 62, 3) := by decide +kernel
theorem dX0_letterByList_22 : decode cX0_letterByList 22 = .ok (.aload_n 0, 1) := by decide +kernel
theorem dX0_letterByList_23 : decode cX0_letterByList 23 = .ok (.getfield 17, 3) := by decide +kernel
theorem dX0_letterByList_26 : decode cX0_letterByList 26 = .ok (.aload_n 0, 1) := by decide +kernel
theorem dX0_letterByList_27 : decode cX0_letterByList 27 = .ok (.getfield 45, 3) := by decide +kernel
theorem dX0_letterByList_30 : decode cX0_letterByList 30 = .ok (.iload_n 2, 1) := by decide +kernel
theorem dX0_letterByList_31 : decode cX0_letterByList 31 = .ok (.iaload, 1) := by decide +kernel
theorem dX0_letterByList_32 : decode cX0_letterByList 32 = .ok (.iaload, 1) := by decide +kernel
theorem dX0_letterByList_33 : decode cX0_letterByList 33 = .ok (.ireturn, 1) := by decide +kernel
set_option maxRecDepth 20000 in
theorem ggX0_eventAt_X0_checkAuthor : GoodIn wsX0_eventAt wsX0_checkAuthor := goodIn_ca (goodIn_r _ [6, 7, 8] (by decide +kernel) (by decide +kernel)) (goodIn_sub (fun _ h => List.mem_cons_of_mem _ (List.mem_append_right _ h)) (by decide +kernel))
set_option maxRecDepth 20000 in
theorem gX0_eventAt_X0_checkAuthor : GoodIn wsX0_eventAt (wsV RX0 54 RX0 yX0_checkAuthor wsX0_checkAuthor) := goodIn_app (goodIn_of _ (by decide +kernel)) ggX0_eventAt_X0_checkAuthor
set_option maxRecDepth 20000 in
theorem ggX0_eventAt_X0_eventInText : GoodIn wsX0_eventAt wsX0_eventInText := goodIn_ca (goodIn_r _ [12, 13, 14, 15, 16, 5, 17, 18, 19, 20, 21, 22, 23, 24, 25, 26, 27, 28, 29, 30, 31, 32, 33, 34, 35, 36, 37, 38, 39, 40, 41, 42, 43, 44, 45, 46, 47, 48, 49, 50, 51, 52, 53, 54, 55, 7, 8, 56, 57, 58, 59, 60, 61, 62, 63, 64, 65, 66, 67, 68, 69] (by decide +kernel) (by decide +kernel)) (goodIn_sub (fun _ h => List.mem_cons_of_mem _ (List.mem_append_right _ h)) (by decide +kernel))
set_option maxRecDepth 20000 in
theorem gX0_eventAt_X0_eventInText : GoodIn wsX0_eventAt (wsV RX0 94 RX0 yX0_eventInText wsX0_eventInText) := goodIn_app (goodIn_of _ (by decide +kernel)) ggX0_eventAt_X0_eventInText
theorem dX0_eventAt_0 : decode cX0_eventAt 0 = .ok (.aload_n 0, 1) := by decide +kernel
theorem dX0_eventAt_1 : decode cX0_eventAt 1 = .ok (.iload_n 1, 1) := by decide +kernel
theorem dX0_eventAt_2 : decode cX0_eventAt 2 = .ok (.invokevirtual 54, 3) := by decide +kernel
theorem dX0_eventAt_5 : decode cX0_eventAt 5 = .ok (.aload_n 0, 1) := by decide +kernel
theorem dX0_eventAt_6 : decode cX0_eventAt 6 = .ok (.aload_n 0, 1) := by decide +kernel
theorem dX0_eventAt_7 : decode cX0_eventAt 7 = .ok (.getfield 33, 3) := by decide +kernel
theorem dX0_eventAt_10 : decode cX0_eventAt 10 = .ok (.iload_n 1, 1) := by decide +kernel
theorem dX0_eventAt_11 : decode cX0_eventAt 11 = .ok (.laload, 1) := by decide +kernel
theorem dX0_eventAt_12 : decode cX0_eventAt 12 = .ok (.iload_n 2, 1) := by decide +kernel
theorem dX0_eventAt_13 : decode cX0_eventAt 13 = .ok (.invokevirtual 94, 3) := by decide +kernel
theorem dX0_eventAt_16 : decode cX0_eventAt 16 = .ok (.ireturn, 1) := by decide +kernel
set_option maxRecDepth 20000 in
theorem ggX0_lengthOf_X0_checkEvent : GoodIn wsX0_lengthOf wsX0_checkEvent := goodIn_ca (goodIn_r _ [5, 6, 7, 8, 9, 10, 4, 11, 12, 52, 53, 54, 55, 56, 57, 58, 59, 60, 61, 62, 63, 64, 65] (by decide +kernel) (by decide +kernel)) (goodIn_sub (fun _ h => List.mem_cons_of_mem _ (List.mem_append_right _ h)) (by decide +kernel))
set_option maxRecDepth 20000 in
theorem gX0_lengthOf_X0_checkEvent : GoodIn wsX0_lengthOf (wsV RX0 87 RX0 yX0_checkEvent wsX0_checkEvent) := goodIn_app (goodIn_of _ (by decide +kernel)) ggX0_lengthOf_X0_checkEvent
set_option maxRecDepth 20000 in
theorem ggX0_lengthOf_X0_versionOfEvent : GoodIn wsX0_lengthOf wsX0_versionOfEvent := goodIn_r _ [16, 17, 18, 19, 4, 20, 52, 53, 54, 55, 56, 57, 58, 59, 60, 61, 62, 63, 64, 65] (by decide +kernel) (by decide +kernel)
set_option maxRecDepth 20000 in
theorem gX0_lengthOf_X0_versionOfEvent : GoodIn wsX0_lengthOf (wsV RX0 90 RX0 yX0_versionOfEvent wsX0_versionOfEvent) := goodIn_app (goodIn_of _ (by decide +kernel)) ggX0_lengthOf_X0_versionOfEvent
set_option maxRecDepth 20000 in
theorem ggX0_lengthOf_X0_findText : GoodIn wsX0_lengthOf wsX0_findText := goodIn_r _ [24, 25, 26, 27, 28, 29, 30, 31, 4, 32, 12, 33, 34, 35, 36, 37, 18, 19, 20, 38, 39, 40, 41, 42, 43, 44, 45, 46, 8, 9, 10, 11, 47, 48, 49, 50, 51, 52, 53, 54, 55, 56, 57, 58, 59, 60, 61, 62, 63, 64, 65] (by decide +kernel) (by decide +kernel)
set_option maxRecDepth 20000 in
theorem gX0_lengthOf_X0_findText : GoodIn wsX0_lengthOf (wsV RX0 58 RX0 yX0_findText wsX0_findText) := goodIn_app (goodIn_of _ (by decide +kernel)) ggX0_lengthOf_X0_findText
theorem dX0_lengthOf_0 : decode cX0_lengthOf 0 = .ok (.aload_n 0, 1) := by decide +kernel
theorem dX0_lengthOf_1 : decode cX0_lengthOf 1 = .ok (.iload_n 1, 1) := by decide +kernel
theorem dX0_lengthOf_2 : decode cX0_lengthOf 2 = .ok (.invokevirtual 87, 3) := by decide +kernel
theorem dX0_lengthOf_5 : decode cX0_lengthOf 5 = .ok (.aload_n 0, 1) := by decide +kernel
theorem dX0_lengthOf_6 : decode cX0_lengthOf 6 = .ok (.aload_n 0, 1) := by decide +kernel
theorem dX0_lengthOf_7 : decode cX0_lengthOf 7 = .ok (.iload_n 1, 1) := by decide +kernel
theorem dX0_lengthOf_8 : decode cX0_lengthOf 8 = .ok (.invokevirtual 90, 3) := by decide +kernel
theorem dX0_lengthOf_11 : decode cX0_lengthOf 11 = .ok (.invokevirtual 58, 3) := by decide +kernel
theorem dX0_lengthOf_14 : decode cX0_lengthOf 14 = .ok (.ireturn, 1) := by decide +kernel
set_option maxRecDepth 20000 in
theorem ggX0_letterOf_X0_checkEvent : GoodIn wsX0_letterOf wsX0_checkEvent := goodIn_ca (goodIn_r _ [6, 7, 8, 9, 10, 11, 5, 12, 13, 60, 61, 62, 63, 64, 65, 66, 67, 68, 69, 70, 71, 72, 73] (by decide +kernel) (by decide +kernel)) (goodIn_sub (fun _ h => List.mem_cons_of_mem _ (List.mem_append_right _ h)) (by decide +kernel))
set_option maxRecDepth 20000 in
theorem gX0_letterOf_X0_checkEvent : GoodIn wsX0_letterOf (wsV RX0 87 RX0 yX0_checkEvent wsX0_checkEvent) := goodIn_app (goodIn_of _ (by decide +kernel)) ggX0_letterOf_X0_checkEvent
set_option maxRecDepth 20000 in
theorem ggX0_letterOf_X0_versionOfEvent : GoodIn wsX0_letterOf wsX0_versionOfEvent := goodIn_r _ [17, 18, 19, 20, 5, 21, 60, 61, 62, 63, 64, 65, 66, 67, 68, 69, 70, 71, 72, 73] (by decide +kernel) (by decide +kernel)
set_option maxRecDepth 20000 in
theorem gX0_letterOf_X0_versionOfEvent : GoodIn wsX0_letterOf (wsV RX0 90 RX0 yX0_versionOfEvent wsX0_versionOfEvent) := goodIn_app (goodIn_of _ (by decide +kernel)) ggX0_letterOf_X0_versionOfEvent
set_option maxRecDepth 20000 in
theorem ggX0_letterOf_X0_eventInText : GoodIn wsX0_letterOf wsX0_eventInText := goodIn_ca (goodIn_r _ [25, 26, 27, 28, 29, 5, 30, 31, 32, 33, 34, 35, 36, 37, 38, 13, 39, 40, 41, 42, 43, 19, 20, 21, 44, 45, 46, 47, 1, 48, 49, 50, 51, 9, 10, 11, 12, 52, 53, 54, 55, 56, 57, 58, 59, 7, 8, 60, 61, 62, 63, 64, 65, 66, 67, 68, 69, 70, 71, 72, 73] (by decide +kernel) (by decide +kernel)) (goodIn_sub (fun _ h => List.mem_cons_of_mem _ (List.mem_append_right _ h)) (by decide +kernel))
set_option maxRecDepth 20000 in
theorem gX0_letterOf_X0_eventInText : GoodIn wsX0_letterOf (wsV RX0 94 RX0 yX0_eventInText wsX0_eventInText) := goodIn_app (goodIn_of _ (by decide +kernel)) ggX0_letterOf_X0_eventInText
theorem dX0_letterOf_0 : decode cX0_letterOf 0 = .ok (.aload_n 0, 1) := by decide +kernel
theorem dX0_letterOf_1 : decode cX0_letterOf 1 = .ok (.iload_n 1, 1) := by decide +kernel
theorem dX0_letterOf_2 : decode cX0_letterOf 2 = .ok (.invokevirtual 87, 3) := by decide +kernel
theorem dX0_letterOf_5 : decode cX0_letterOf 5 = .ok (.aload_n 0, 1) := by decide +kernel
theorem dX0_letterOf_6 : decode cX0_letterOf 6 = .ok (.getfield 17, 3) := by decide +kernel
theorem dX0_letterOf_9 : decode cX0_letterOf 9 = .ok (.aload_n 0, 1) := by decide +kernel
theorem dX0_letterOf_10 : decode cX0_letterOf 10 = .ok (.aload_n 0, 1) := by decide +kernel
theorem dX0_letterOf_11 : decode cX0_letterOf 11 = .ok (.iload_n 1, 1) := by decide +kernel
theorem dX0_letterOf_12 : decode cX0_letterOf 12 = .ok (.invokevirtual 90, 3) := by decide +kernel
theorem dX0_letterOf_15 : decode cX0_letterOf 15 = .ok (.iload_n 2, 1) := by decide +kernel
theorem dX0_letterOf_16 : decode cX0_letterOf 16 = .ok (.invokevirtual 94, 3) := by decide +kernel
theorem dX0_letterOf_19 : decode cX0_letterOf 19 = .ok (.iaload, 1) := by decide +kernel
theorem dX0_letterOf_20 : decode cX0_letterOf 20 = .ok (.ireturn, 1) := by decide +kernel
set_option maxRecDepth 20000 in
theorem ggX0_lettersBy_X0_checkAuthor : GoodIn wsX0_lettersBy wsX0_checkAuthor := goodIn_ca (goodIn_r _ [8, 9, 10] (by decide +kernel) (by decide +kernel)) (goodIn_sub (fun _ h => List.mem_cons_of_mem _ (List.mem_append_right _ h)) (by decide +kernel))
set_option maxRecDepth 20000 in
theorem gX0_lettersBy_X0_checkAuthor : GoodIn wsX0_lettersBy (wsV RX0 54 RX0 yX0_checkAuthor wsX0_checkAuthor) := goodIn_app (goodIn_of _ (by decide +kernel)) ggX0_lettersBy_X0_checkAuthor
set_option maxRecDepth 20000 in
theorem ggX0_lettersBy_X0_findText : GoodIn wsX0_lettersBy wsX0_findText := goodIn_r _ [14, 15, 16, 17, 18, 19, 20, 21, 7, 22, 23, 24, 25, 26, 27, 28, 29, 30, 31, 32, 33, 34, 35, 36, 37, 38, 39, 40, 41, 42, 43, 44, 45, 46, 47, 48, 3, 49, 50, 51, 52, 53, 54, 55, 56, 57, 58, 59, 60, 61, 62] (by decide +kernel) (by decide +kernel)
set_option maxRecDepth 20000 in
theorem gX0_lettersBy_X0_findText : GoodIn wsX0_lettersBy (wsV RX0 58 RX0 yX0_findText wsX0_findText) := goodIn_app (goodIn_of _ (by decide +kernel)) ggX0_lettersBy_X0_findText
theorem dX0_lettersBy_0 : decode cX0_lettersBy 0 = .ok (.aload_n 0, 1) := by decide +kernel
theorem dX0_lettersBy_1 : decode cX0_lettersBy 1 = .ok (.iload_n 1, 1) := by decide +kernel
theorem dX0_lettersBy_2 : decode cX0_lettersBy 2 = .ok (.invokevirtual 54, 3) := by decide +kernel
theorem dX0_lettersBy_5 : decode cX0_lettersBy 5 = .ok (.aload_n 0, 1) := by decide +kernel
theorem dX0_lettersBy_6 : decode cX0_lettersBy 6 = .ok (.iload_n 2, 1) := by decide +kernel
theorem dX0_lettersBy_7 : decode cX0_lettersBy 7 = .ok (.invokevirtual 54, 3) := by decide +kernel
theorem dX0_lettersBy_10 : decode cX0_lettersBy 10 = .ok (.aload_n 0, 1) := by decide +kernel
theorem dX0_lettersBy_11 : decode cX0_lettersBy 11 = .ok (.aload_n 0, 1) := by decide +kernel
theorem dX0_lettersBy_12 : decode cX0_lettersBy 12 = .ok (.getfield 33, 3) := by decide +kernel
theorem dX0_lettersBy_15 : decode cX0_lettersBy 15 = .ok (.iload_n 1, 1) := by decide +kernel
theorem dX0_lettersBy_16 : decode cX0_lettersBy 16 = .ok (.laload, 1) := by decide +kernel
theorem dX0_lettersBy_17 : decode cX0_lettersBy 17 = .ok (.invokevirtual 58, 3) := by decide +kernel
theorem dX0_lettersBy_20 : decode cX0_lettersBy 20 = .ok (.istore_n 3, 1) := by decide +kernel
theorem dX0_lettersBy_21 : decode cX0_lettersBy 21 = .ok (.iconst 0, 1) := by decide +kernel
theorem dX0_lettersBy_22 : decode cX0_lettersBy 22 = .ok (.istore 4, 2) := by decide +kernel
theorem dX0_lettersBy_24 : decode cX0_lettersBy 24 = .ok (.iconst 0, 1) := by decide +kernel
theorem dX0_lettersBy_25 : decode cX0_lettersBy 25 = .ok (.istore 5, 2) := by decide +kernel
theorem dX0_lettersBy_27 : decode cX0_lettersBy 27 = .ok (.iload 5, 2) := by decide +kernel
theorem dX0_lettersBy_29 : decode cX0_lettersBy 29 = .ok (.iload_n 3, 1) := by decide +kernel
theorem dX0_lettersBy_30 : decode cX0_lettersBy 30 = .ok (.if_icmp .ge 28, 3) := by decide +kernel
theorem dX0_lettersBy_33 : decode cX0_lettersBy 33 = .ok (.aload_n 0, 1) := by decide +kernel
theorem dX0_lettersBy_34 : decode cX0_lettersBy 34 = .ok (.getfield 13, 3) := by decide +kernel
theorem dX0_lettersBy_37 : decode cX0_lettersBy 37 = .ok (.aload_n 0, 1) := by decide +kernel
theorem dX0_lettersBy_38 : decode cX0_lettersBy 38 = .ok (.getfield 45, 3) := by decide +kernel
theorem dX0_lettersBy_41 : decode cX0_lettersBy 41 = .ok (.iload 5, 2) := by decide +kernel
theorem dX0_lettersBy_43 : decode cX0_lettersBy 43 = .ok (.iaload, 1) := by decide +kernel
theorem dX0_lettersBy_44 : decode cX0_lettersBy 44 = .ok (.iaload, 1) := by decide +kernel
theorem dX0_lettersBy_45 : decode cX0_lettersBy 45 = .ok (.iload_n 2, 1) := by decide +kernel
theorem dX0_lettersBy_46 : decode cX0_lettersBy 46 = .ok (.if_icmp .ne 6, 3) := by decide +kernel
theorem dX0_lettersBy_49 : decode cX0_lettersBy 49 = .ok (.iinc 4 1, 3) := by decide +kernel
theorem dX0_lettersBy_52 : decode cX0_lettersBy 52 = .ok (.iinc 5 1, 3) := by decide +kernel
theorem dX0_lettersBy_55 : decode cX0_lettersBy 55 = .ok (.goto (-28), 3) := by decide +kernel
theorem dX0_lettersBy_58 : decode cX0_lettersBy 58 = .ok (.iload 4, 2) := by decide +kernel
theorem dX0_lettersBy_60 : decode cX0_lettersBy 60 = .ok (.ireturn, 1) := by decide +kernel
set_option maxRecDepth 20000 in
theorem ggX0_authorOf_X0_checkEvent : GoodIn wsX0_authorOf wsX0_checkEvent := goodIn_ca (goodIn_r _ [6, 7, 8, 9, 10, 11, 5, 12, 13, 14, 15, 16, 17, 18, 19, 20, 21, 22, 23, 24, 25, 26, 27] (by decide +kernel) (by decide +kernel)) (goodIn_sub (fun _ h => List.mem_cons_of_mem _ (List.mem_append_right _ h)) (by decide +kernel))
set_option maxRecDepth 20000 in
theorem gX0_authorOf_X0_checkEvent : GoodIn wsX0_authorOf (wsV RX0 87 RX0 yX0_checkEvent wsX0_checkEvent) := goodIn_app (goodIn_of _ (by decide +kernel)) ggX0_authorOf_X0_checkEvent
theorem dX0_authorOf_0 : decode cX0_authorOf 0 = .ok (.aload_n 0, 1) := by decide +kernel
theorem dX0_authorOf_1 : decode cX0_authorOf 1 = .ok (.iload_n 1, 1) := by decide +kernel
theorem dX0_authorOf_2 : decode cX0_authorOf 2 = .ok (.invokevirtual 87, 3) := by decide +kernel
theorem dX0_authorOf_5 : decode cX0_authorOf 5 = .ok (.aload_n 0, 1) := by decide +kernel
theorem dX0_authorOf_6 : decode cX0_authorOf 6 = .ok (.getfield 13, 3) := by decide +kernel
theorem dX0_authorOf_9 : decode cX0_authorOf 9 = .ok (.iload_n 1, 1) := by decide +kernel
theorem dX0_authorOf_10 : decode cX0_authorOf 10 = .ok (.iaload, 1) := by decide +kernel
theorem dX0_authorOf_11 : decode cX0_authorOf 11 = .ok (.ireturn, 1) := by decide +kernel
set_option maxRecDepth 20000 in
theorem ggX0_parents_X0_checkEvent : GoodIn wsX0_parents wsX0_checkEvent := goodIn_ca (goodIn_r _ [6, 7, 8, 9, 10, 11, 5, 12, 13, 14, 15, 16, 17, 18, 19, 20, 21, 22, 23, 24, 25, 26, 27] (by decide +kernel) (by decide +kernel)) (goodIn_sub (fun _ h => List.mem_cons_of_mem _ (List.mem_append_right _ h)) (by decide +kernel))
set_option maxRecDepth 20000 in
theorem gX0_parents_X0_checkEvent : GoodIn wsX0_parents (wsV RX0 87 RX0 yX0_checkEvent wsX0_checkEvent) := goodIn_app (goodIn_of _ (by decide +kernel)) ggX0_parents_X0_checkEvent
theorem dX0_parents_0 : decode cX0_parents 0 = .ok (.aload_n 0, 1) := by decide +kernel
theorem dX0_parents_1 : decode cX0_parents 1 = .ok (.iload_n 1, 1) := by decide +kernel
theorem dX0_parents_2 : decode cX0_parents 2 = .ok (.invokevirtual 87, 3) := by decide +kernel
theorem dX0_parents_5 : decode cX0_parents 5 = .ok (.aload_n 0, 1) := by decide +kernel
theorem dX0_parents_6 : decode cX0_parents 6 = .ok (.getfield 23, 3) := by decide +kernel
theorem dX0_parents_9 : decode cX0_parents 9 = .ok (.iload_n 1, 1) := by decide +kernel
theorem dX0_parents_10 : decode cX0_parents 10 = .ok (.laload, 1) := by decide +kernel
theorem dX0_parents_11 : decode cX0_parents 11 = .ok (.lreturn, 1) := by decide +kernel
set_option maxRecDepth 20000 in
theorem ggX0_isLater_X0_checkEvent : GoodIn wsX0_isLater wsX0_checkEvent := goodIn_ca (goodIn_r _ [6, 7, 8, 9, 10, 11, 5, 12, 13, 20, 21, 22, 23, 24, 25, 26, 27, 28, 29, 30, 31, 32, 33] (by decide +kernel) (by decide +kernel)) (goodIn_sub (fun _ h => List.mem_cons_of_mem _ (List.mem_append_right _ h)) (by decide +kernel))
set_option maxRecDepth 20000 in
theorem gX0_isLater_X0_checkEvent : GoodIn wsX0_isLater (wsV RX0 87 RX0 yX0_checkEvent wsX0_checkEvent) := goodIn_app (goodIn_of _ (by decide +kernel)) ggX0_isLater_X0_checkEvent
set_option maxRecDepth 20000 in
theorem ggX0_isLater_X0_has : GoodIn wsX0_isLater wsX0_has := goodIn_r _ [16, 17, 18, 5, 19] (by decide +kernel) (by decide +kernel)
set_option maxRecDepth 20000 in
theorem gX0_isLater_X0_has : GoodIn wsX0_isLater (va_wsS RX0 101 yX0_has wsX0_has) := goodIn_app (goodIn_of _ (by decide +kernel)) ggX0_isLater_X0_has
theorem dX0_isLater_0 : decode cX0_isLater 0 = .ok (.aload_n 0, 1) := by decide +kernel
theorem dX0_isLater_1 : decode cX0_isLater 1 = .ok (.iload_n 1, 1) := by decide +kernel
theorem dX0_isLater_2 : decode cX0_isLater 2 = .ok (.invokevirtual 87, 3) := by decide +kernel
theorem dX0_isLater_5 : decode cX0_isLater 5 = .ok (.aload_n 0, 1) := by decide +kernel
theorem dX0_isLater_6 : decode cX0_isLater 6 = .ok (.iload_n 2, 1) := by decide +kernel
theorem dX0_isLater_7 : decode cX0_isLater 7 = .ok (.invokevirtual 87, 3) := by decide +kernel
theorem dX0_isLater_10 : decode cX0_isLater 10 = .ok (.aload_n 0, 1) := by decide +kernel
theorem dX0_isLater_11 : decode cX0_isLater 11 = .ok (.getfield 27, 3) := by decide +kernel
theorem dX0_isLater_14 : decode cX0_isLater 14 = .ok (.iload_n 1, 1) := by decide +kernel
theorem dX0_isLater_15 : decode cX0_isLater 15 = .ok (.laload, 1) := by decide +kernel
theorem dX0_isLater_16 : decode cX0_isLater 16 = .ok (.iload_n 2, 1) := by decide +kernel
theorem dX0_isLater_17 : decode cX0_isLater 17 = .ok (.invokestatic 101, 3) := by decide +kernel
theorem dX0_isLater_20 : decode cX0_isLater 20 = .ok (.ireturn, 1) := by decide +kernel
set_option maxRecDepth 20000 in
theorem ggX0_version_X0_checkAuthor : GoodIn wsX0_version wsX0_checkAuthor := goodIn_ca (goodIn_r _ [6, 7, 8] (by decide +kernel) (by decide +kernel)) (goodIn_sub (fun _ h => List.mem_cons_of_mem _ (List.mem_append_right _ h)) (by decide +kernel))
set_option maxRecDepth 20000 in
theorem gX0_version_X0_checkAuthor : GoodIn wsX0_version (wsV RX0 54 RX0 yX0_checkAuthor wsX0_checkAuthor) := goodIn_app (goodIn_of _ (by decide +kernel)) ggX0_version_X0_checkAuthor
theorem dX0_version_0 : decode cX0_version 0 = .ok (.aload_n 0, 1) := by decide +kernel
theorem dX0_version_1 : decode cX0_version 1 = .ok (.iload_n 1, 1) := by decide +kernel
theorem dX0_version_2 : decode cX0_version 2 = .ok (.invokevirtual 54, 3) := by decide +kernel
theorem dX0_version_5 : decode cX0_version 5 = .ok (.aload_n 0, 1) := by decide +kernel
theorem dX0_version_6 : decode cX0_version 6 = .ok (.getfield 33, 3) := by decide +kernel
theorem dX0_version_9 : decode cX0_version 9 = .ok (.iload_n 1, 1) := by decide +kernel
theorem dX0_version_10 : decode cX0_version 10 = .ok (.laload, 1) := by decide +kernel
theorem dX0_version_11 : decode cX0_version 11 = .ok (.lreturn, 1) := by decide +kernel
set_option maxRecDepth 20000 in
theorem ggX0_heads_X0_checkAuthor : GoodIn wsX0_heads wsX0_checkAuthor := goodIn_ca (goodIn_r _ [6, 7, 8] (by decide +kernel) (by decide +kernel)) (goodIn_sub (fun _ h => List.mem_cons_of_mem _ (List.mem_append_right _ h)) (by decide +kernel))
set_option maxRecDepth 20000 in
theorem gX0_heads_X0_checkAuthor : GoodIn wsX0_heads (wsV RX0 54 RX0 yX0_checkAuthor wsX0_checkAuthor) := goodIn_app (goodIn_of _ (by decide +kernel)) ggX0_heads_X0_checkAuthor
set_option maxRecDepth 20000 in
theorem ggX0_heads_X0_headsOf : GoodIn wsX0_heads wsX0_headsOf := goodIn_r _ [12, 13, 14, 15, 16, 17, 5, 18, 19, 20, 21, 22, 23, 24, 25, 26, 27, 28, 29, 30, 31, 32, 33, 34, 35] (by decide +kernel) (by decide +kernel)
set_option maxRecDepth 20000 in
theorem gX0_heads_X0_headsOf : GoodIn wsX0_heads (wsV RX0 105 RX0 yX0_headsOf wsX0_headsOf) := goodIn_app (goodIn_of _ (by decide +kernel)) ggX0_heads_X0_headsOf
theorem dX0_heads_0 : decode cX0_heads 0 = .ok (.aload_n 0, 1) := by decide +kernel
theorem dX0_heads_1 : decode cX0_heads 1 = .ok (.iload_n 1, 1) := by decide +kernel
theorem dX0_heads_2 : decode cX0_heads 2 = .ok (.invokevirtual 54, 3) := by decide +kernel
theorem dX0_heads_5 : decode cX0_heads 5 = .ok (.aload_n 0, 1) := by decide +kernel
theorem dX0_heads_6 : decode cX0_heads 6 = .ok (.aload_n 0, 1) := by decide +kernel
theorem dX0_heads_7 : decode cX0_heads 7 = .ok (.getfield 33, 3) := by decide +kernel
theorem dX0_heads_10 : decode cX0_heads 10 = .ok (.iload_n 1, 1) := by decide +kernel
theorem dX0_heads_11 : decode cX0_heads 11 = .ok (.laload, 1) := by decide +kernel
theorem dX0_heads_12 : decode cX0_heads 12 = .ok (.invokevirtual 105, 3) := by decide +kernel
theorem dX0_heads_15 : decode cX0_heads 15 = .ok (.lreturn, 1) := by decide +kernel
set_option maxRecDepth 20000 in
theorem ggX0_commonHeads_X0_checkAuthor : GoodIn wsX0_commonHeads wsX0_checkAuthor := goodIn_ca (goodIn_r _ [6, 7, 8] (by decide +kernel) (by decide +kernel)) (goodIn_sub (fun _ h => List.mem_cons_of_mem _ (List.mem_append_right _ h)) (by decide +kernel))
set_option maxRecDepth 20000 in
theorem gX0_commonHeads_X0_checkAuthor : GoodIn wsX0_commonHeads (wsV RX0 54 RX0 yX0_checkAuthor wsX0_checkAuthor) := goodIn_app (goodIn_of _ (by decide +kernel)) ggX0_commonHeads_X0_checkAuthor
set_option maxRecDepth 20000 in
theorem ggX0_commonHeads_X0_headsOf : GoodIn wsX0_commonHeads wsX0_headsOf := goodIn_r _ [12, 13, 14, 15, 16, 17, 5, 18, 19, 20, 21, 22, 23, 24, 25, 26, 27, 28, 29, 30, 31, 32, 33, 34, 35] (by decide +kernel) (by decide +kernel)
set_option maxRecDepth 20000 in
theorem gX0_commonHeads_X0_headsOf : GoodIn wsX0_commonHeads (wsV RX0 105 RX0 yX0_headsOf wsX0_headsOf) := goodIn_app (goodIn_of _ (by decide +kernel)) ggX0_commonHeads_X0_headsOf
theorem dX0_commonHeads_0 : decode cX0_commonHeads 0 = .ok (.aload_n 0, 1) := by decide +kernel
theorem dX0_commonHeads_1 : decode cX0_commonHeads 1 = .ok (.iload_n 1, 1) := by decide +kernel
theorem dX0_commonHeads_2 : decode cX0_commonHeads 2 = .ok (.invokevirtual 54, 3) := by decide +kernel
theorem dX0_commonHeads_5 : decode cX0_commonHeads 5 = .ok (.aload_n 0, 1) := by decide +kernel
theorem dX0_commonHeads_6 : decode cX0_commonHeads 6 = .ok (.iload_n 2, 1) := by decide +kernel
theorem dX0_commonHeads_7 : decode cX0_commonHeads 7 = .ok (.invokevirtual 54, 3) := by decide +kernel
theorem dX0_commonHeads_10 : decode cX0_commonHeads 10 = .ok (.aload_n 0, 1) := by decide +kernel
theorem dX0_commonHeads_11 : decode cX0_commonHeads 11 = .ok (.aload_n 0, 1) := by decide +kernel
theorem dX0_commonHeads_12 : decode cX0_commonHeads 12 = .ok (.getfield 33, 3) := by decide +kernel
theorem dX0_commonHeads_15 : decode cX0_commonHeads 15 = .ok (.iload_n 1, 1) := by decide +kernel
theorem dX0_commonHeads_16 : decode cX0_commonHeads 16 = .ok (.laload, 1) := by decide +kernel
theorem dX0_commonHeads_17 : decode cX0_commonHeads 17 = .ok (.aload_n 0, 1) := by decide +kernel
theorem dX0_commonHeads_18 : decode cX0_commonHeads 18 = .ok (.getfield 33, 3) := by decide +kernel
theorem dX0_commonHeads_21 : decode cX0_commonHeads 21 = .ok (.iload_n 2, 1) := by decide +kernel
theorem dX0_commonHeads_22 : decode cX0_commonHeads 22 = .ok (.laload, 1) := by decide +kernel
theorem dX0_commonHeads_23 : decode cX0_commonHeads 23 = .ok (.land, 1) := by decide +kernel
theorem dX0_commonHeads_24 : decode cX0_commonHeads 24 = .ok (.invokevirtual 105, 3) := by decide +kernel
theorem dX0_commonHeads_27 : decode cX0_commonHeads 27 = .ok (.lreturn, 1) := by decide +kernel
set_option maxRecDepth 20000 in
theorem ggX0_concurrent_X0_checkAuthor : GoodIn wsX0_concurrent wsX0_checkAuthor := goodIn_ca (goodIn_r _ [8, 9, 10] (by decide +kernel) (by decide +kernel)) (goodIn_sub (fun _ h => List.mem_cons_of_mem _ (List.mem_append_right _ h)) (by decide +kernel))
set_option maxRecDepth 20000 in
theorem gX0_concurrent_X0_checkAuthor : GoodIn wsX0_concurrent (wsV RX0 54 RX0 yX0_checkAuthor wsX0_checkAuthor) := goodIn_app (goodIn_of _ (by decide +kernel)) ggX0_concurrent_X0_checkAuthor
set_option maxRecDepth 20000 in
theorem ggX0_concurrent_X0_has : GoodIn wsX0_concurrent wsX0_has := goodIn_r _ [13, 14, 15, 7, 16] (by decide +kernel) (by decide +kernel)
set_option maxRecDepth 20000 in
theorem gX0_concurrent_X0_has : GoodIn wsX0_concurrent (va_wsS RX0 101 yX0_has wsX0_has) := goodIn_app (goodIn_of _ (by decide +kernel)) ggX0_concurrent_X0_has
set_option maxRecDepth 20000 in
theorem ggX0_concurrent_X0_relatedTo : GoodIn wsX0_concurrent wsX0_relatedTo := goodIn_r _ [20, 21, 22, 23, 24, 7, 25, 26, 14, 15, 16, 34, 35, 36, 37, 38, 39, 40, 41, 42, 43, 44, 45, 46, 47] (by decide +kernel) (by decide +kernel)
set_option maxRecDepth 20000 in
theorem gX0_concurrent_X0_relatedTo : GoodIn wsX0_concurrent (wsV RX0 109 RX0 yX0_relatedTo wsX0_relatedTo) := goodIn_app (goodIn_of _ (by decide +kernel)) ggX0_concurrent_X0_relatedTo
set_option maxRecDepth 20000 in
theorem ggX0_concurrent_J13_bitCount_95d88 : GoodIn wsX0_concurrent wsJ13_bitCount_95d88 := goodIn_r _ [30, 31, 32, 33] (by decide +kernel) (by decide +kernel)
set_option maxRecDepth 20000 in
theorem gX0_concurrent_J13_bitCount_95d88 : GoodIn wsX0_concurrent (va_wsS RX0 114 yJ13_bitCount_95d88 wsJ13_bitCount_95d88) := goodIn_app (goodIn_of _ (by decide +kernel)) ggX0_concurrent_J13_bitCount_95d88
theorem dX0_concurrent_0 : decode cX0_concurrent 0 = .ok (.aload_n 0, 1) := by decide +kernel
theorem dX0_concurrent_1 : decode cX0_concurrent 1 = .ok (.iload_n 1, 1) := by decide +kernel
theorem dX0_concurrent_2 : decode cX0_concurrent 2 = .ok (.invokevirtual 54, 3) := by decide +kernel
theorem dX0_concurrent_5 : decode cX0_concurrent 5 = .ok (.aload_n 0, 1) := by decide +kernel
theorem dX0_concurrent_6 : decode cX0_concurrent 6 = .ok (.getfield 33, 3) := by decide +kernel
theorem dX0_concurrent_9 : decode cX0_concurrent 9 = .ok (.iload_n 1, 1) := by decide +kernel
theorem dX0_concurrent_10 : decode cX0_concurrent 10 = .ok (.laload, 1) := by decide +kernel
theorem dX0_concurrent_11 : decode cX0_concurrent 11 = .ok (.lstore_n 2, 1) := by decide +kernel
theorem dX0_concurrent_12 : decode cX0_concurrent 12 = .ok (.iconst 0, 1) := by decide +kernel
theorem dX0_concurrent_13 : decode cX0_concurrent 13 = .ok (.istore 4, 2) := by decide +kernel
theorem dX0_concurrent_15 : decode cX0_concurrent 15 = .ok (.iconst 0, 1) := by decide +kernel
theorem dX0_concurrent_16 : decode cX0_concurrent 16 = .ok (.istore 5, 2) := by decide +kernel
theorem dX0_concurrent_18 : decode cX0_concurrent 18 = .ok (.iload 5, 2) := by decide +kernel
theorem dX0_concurrent_20 : decode cX0_concurrent 20 = .ok (.aload_n 0, 1) := by decide +kernel
theorem dX0_concurrent_21 : decode cX0_concurrent 21 = .ok (.getfield 7, 3) := by decide +kernel
theorem dX0_concurrent_24 : decode cX0_concurrent 24 = .ok (.if_icmp .ge 38, 3) := by decide +kernel
theorem dX0_concurrent_27 : decode cX0_concurrent 27 = .ok (.lload_n 2, 1) := by decide +kernel
theorem dX0_concurrent_28 : decode cX0_concurrent 28 = .ok (.iload 5, 2) := by decide +kernel
theorem dX0_concurrent_30 : decode cX0_concurrent 30 = .ok (.invokestatic 101, 3) := by decide +kernel
theorem dX0_concurrent_33 : decode cX0_concurrent 33 = .ok (.ifCond .eq 23, 3) := by decide +kernel
theorem dX0_concurrent_36 : decode cX0_concurrent 36 = .ok (.iload 4, 2) := by decide +kernel
theorem dX0_concurrent_38 : decode cX0_concurrent 38 = .ok (.lload_n 2, 1) := by decide +kernel
theorem dX0_concurrent_39 : decode cX0_concurrent 39 = .ok (.aload_n 0, 1) := by decide +kernel
theorem dX0_concurrent_40 : decode cX0_concurrent 40 = .ok (.iload 5, 2) := by decide +kernel
theorem dX0_concurrent_42 : decode cX0_concurrent 42 = .ok (.invokevirtual 109, 3) := by decide +kernel
theorem dX0_concurrent_45 : decode cX0_concurrent 45 = .ok (.ldc2_w 112, 3) := by decide +kernel
theorem dX0_concurrent_48 : decode cX0_concurrent 48 = .ok (.lxor, 1) := by decide +kernel
theorem dX0_concurrent_49 : decode cX0_concurrent 49 = .ok (.land, 1) := by decide +kernel
theorem dX0_concurrent_50 : decode cX0_concurrent 50 = .ok (.invokestatic 114, 3) := by decide +kernel
theorem dX0_concurrent_53 : decode cX0_concurrent 53 = .ok (.iadd, 1) := by decide +kernel
theorem dX0_concurrent_54 : decode cX0_concurrent 54 = .ok (.istore 4, 2) := by decide +kernel
theorem dX0_concurrent_56 : decode cX0_concurrent 56 = .ok (.iinc 5 1, 3) := by decide +kernel
theorem dX0_concurrent_59 : decode cX0_concurrent 59 = .ok (.goto (-41), 3) := by decide +kernel
theorem dX0_concurrent_62 : decode cX0_concurrent 62 = .ok (.iload 4, 2) := by decide +kernel
theorem dX0_concurrent_64 : decode cX0_concurrent 64 = .ok (.iconst 1, 1) := by decide +kernel
theorem dX0_concurrent_65 : decode cX0_concurrent 65 = .ok (.ishr, 1) := by decide +kernel
theorem dX0_concurrent_66 : decode cX0_concurrent 66 = .ok (.ireturn, 1) := by decide +kernel
set_option maxRecDepth 20000 in
theorem ggX0_critical_X0_checkAuthor : GoodIn wsX0_critical wsX0_checkAuthor := goodIn_ca (goodIn_r _ [6, 7, 8] (by decide +kernel) (by decide +kernel)) (goodIn_sub (fun _ h => List.mem_cons_of_mem _ (List.mem_append_right _ h)) (by decide +kernel))
set_option maxRecDepth 20000 in
theorem gX0_critical_X0_checkAuthor : GoodIn wsX0_critical (wsV RX0 54 RX0 yX0_checkAuthor wsX0_checkAuthor) := goodIn_app (goodIn_of _ (by decide +kernel)) ggX0_critical_X0_checkAuthor
set_option maxRecDepth 20000 in
theorem ggX0_critical_X0_criticalOf : GoodIn wsX0_critical wsX0_criticalOf := goodIn_r _ [12, 13, 14, 15, 16, 5, 17, 18, 19, 20, 21, 22, 23, 24, 25, 26, 27, 28, 29, 30, 31, 32, 33, 34, 35, 36, 37, 38, 39, 40, 41, 42, 43, 44] (by decide +kernel) (by decide +kernel)
set_option maxRecDepth 20000 in
theorem gX0_critical_X0_criticalOf : GoodIn wsX0_critical (wsV RX0 119 RX0 yX0_criticalOf wsX0_criticalOf) := goodIn_app (goodIn_of _ (by decide +kernel)) ggX0_critical_X0_criticalOf
theorem dX0_critical_0 : decode cX0_critical 0 = .ok (.aload_n 0, 1) := by decide +kernel
theorem dX0_critical_1 : decode cX0_critical 1 = .ok (.iload_n 1, 1) := by decide +kernel
theorem dX0_critical_2 : decode cX0_critical 2 = .ok (.invokevirtual 54, 3) := by decide +kernel
theorem dX0_critical_5 : decode cX0_critical 5 = .ok (.aload_n 0, 1) := by decide +kernel
theorem dX0_critical_6 : decode cX0_critical 6 = .ok (.aload_n 0, 1) := by decide +kernel
theorem dX0_critical_7 : decode cX0_critical 7 = .ok (.getfield 33, 3) := by decide +kernel
theorem dX0_critical_10 : decode cX0_critical 10 = .ok (.iload_n 1, 1) := by decide +kernel
theorem dX0_critical_11 : decode cX0_critical 11 = .ok (.laload, 1) := by decide +kernel
theorem dX0_critical_12 : decode cX0_critical 12 = .ok (.invokevirtual 119, 3) := by decide +kernel
theorem dX0_critical_15 : decode cX0_critical 15 = .ok (.lreturn, 1) := by decide +kernel
set_option maxRecDepth 20000 in
theorem ggX0_toReplay_X0_checkAuthor : GoodIn wsX0_toReplay wsX0_checkAuthor := goodIn_ca (goodIn_r _ [8, 9, 10] (by decide +kernel) (by decide +kernel)) (goodIn_sub (fun _ h => List.mem_cons_of_mem _ (List.mem_append_right _ h)) (by decide +kernel))
set_option maxRecDepth 20000 in
theorem gX0_toReplay_X0_checkAuthor : GoodIn wsX0_toReplay (wsV RX0 54 RX0 yX0_checkAuthor wsX0_checkAuthor) := goodIn_app (goodIn_of _ (by decide +kernel)) ggX0_toReplay_X0_checkAuthor
set_option maxRecDepth 20000 in
theorem ggX0_toReplay_X0_criticalOf : GoodIn wsX0_toReplay wsX0_criticalOf := goodIn_r _ [14, 2, 3, 15, 16, 7, 17, 18, 19, 20, 21, 22, 23, 24, 25, 26, 27, 28, 29, 30, 38, 39, 40, 41, 42, 43, 44, 45, 46, 47, 48, 49, 50, 51] (by decide +kernel) (by decide +kernel)
set_option maxRecDepth 20000 in
theorem gX0_toReplay_X0_criticalOf : GoodIn wsX0_toReplay (wsV RX0 119 RX0 yX0_criticalOf wsX0_criticalOf) := goodIn_app (goodIn_of _ (by decide +kernel)) ggX0_toReplay_X0_criticalOf
set_option maxRecDepth 20000 in
theorem ggX0_toReplay_X0_has : GoodIn wsX0_toReplay wsX0_has := goodIn_r _ [17, 18, 19, 7, 20] (by decide +kernel) (by decide +kernel)
set_option maxRecDepth 20000 in
theorem gX0_toReplay_X0_has : GoodIn wsX0_toReplay (va_wsS RX0 101 yX0_has wsX0_has) := goodIn_app (goodIn_of _ (by decide +kernel)) ggX0_toReplay_X0_has
set_option maxRecDepth 20000 in
theorem ggX0_toReplay_X0_versionOfEvent : GoodIn wsX0_toReplay wsX0_versionOfEvent := goodIn_r _ [29, 30, 18, 19, 7, 20, 38, 39, 40, 41, 42, 43, 44, 45, 46, 47, 48, 49, 50, 51] (by decide +kernel) (by decide +kernel)
set_option maxRecDepth 20000 in
theorem gX0_toReplay_X0_versionOfEvent : GoodIn wsX0_toReplay (wsV RX0 90 RX0 yX0_versionOfEvent wsX0_versionOfEvent) := goodIn_app (goodIn_of _ (by decide +kernel)) ggX0_toReplay_X0_versionOfEvent
set_option maxRecDepth 20000 in
theorem ggX0_toReplay_J13_bitCount_95d88 : GoodIn wsX0_toReplay wsJ13_bitCount_95d88 := goodIn_r _ [34, 35, 36, 37] (by decide +kernel) (by decide +kernel)
set_option maxRecDepth 20000 in
theorem gX0_toReplay_J13_bitCount_95d88 : GoodIn wsX0_toReplay (va_wsS RX0 114 yJ13_bitCount_95d88 wsJ13_bitCount_95d88) := goodIn_app (goodIn_of _ (by decide +kernel)) ggX0_toReplay_J13_bitCount_95d88
theorem dX0_toReplay_0 : decode cX0_toReplay 0 = .ok (.aload_n 0, 1) := by decide +kernel
theorem dX0_toReplay_1 : decode cX0_toReplay 1 = .ok (.iload_n 1, 1) := by decide +kernel
theorem dX0_toReplay_2 : decode cX0_toReplay 2 = .ok (.invokevirtual 54, 3) := by decide +kernel
theorem dX0_toReplay_5 : decode cX0_toReplay 5 = .ok (.aload_n 0, 1) := by decide +kernel
theorem dX0_toReplay_6 : decode cX0_toReplay 6 = .ok (.getfield 33, 3) := by decide +kernel
theorem dX0_toReplay_9 : decode cX0_toReplay 9 = .ok (.iload_n 1, 1) := by decide +kernel
theorem dX0_toReplay_10 : decode cX0_toReplay 10 = .ok (.laload, 1) := by decide +kernel
theorem dX0_toReplay_11 : decode cX0_toReplay 11 = .ok (.lstore_n 2, 1) := by decide +kernel
theorem dX0_toReplay_12 : decode cX0_toReplay 12 = .ok (.aload_n 0, 1) := by decide +kernel
theorem dX0_toReplay_13 : decode cX0_toReplay 13 = .ok (.lload_n 2, 1) := by decide +kernel
theorem dX0_toReplay_14 : decode cX0_toReplay 14 = .ok (.invokevirtual 119, 3) := by decide +kernel
theorem dX0_toReplay_17 : decode cX0_toReplay 17 = .ok (.lstore 4, 2) := by decide +kernel
theorem dX0_toReplay_19 : decode cX0_toReplay 19 = .ok (.lconst 0, 1) := by decide +kernel
theorem dX0_toReplay_20 : decode cX0_toReplay 20 = .ok (.lstore 6, 2) := by decide +kernel
theorem dX0_toReplay_22 : decode cX0_toReplay 22 = .ok (.iconst 0, 1) := by decide +kernel
theorem dX0_toReplay_23 : decode cX0_toReplay 23 = .ok (.istore 8, 2) := by decide +kernel
theorem dX0_toReplay_25 : decode cX0_toReplay 25 = .ok (.iload 8, 2) := by decide +kernel
theorem dX0_toReplay_27 : decode cX0_toReplay 27 = .ok (.aload_n 0, 1) := by decide +kernel
theorem dX0_toReplay_28 : decode cX0_toReplay 28 = .ok (.getfield 7, 3) := by decide +kernel
theorem dX0_toReplay_31 : decode cX0_toReplay 31 = .ok (.if_icmp .ge 27, 3) := by decide +kernel
theorem dX0_toReplay_34 : decode cX0_toReplay 34 = .ok (.lload 4, 2) := by decide +kernel
theorem dX0_toReplay_36 : decode cX0_toReplay 36 = .ok (.iload 8, 2) := by decide +kernel
theorem dX0_toReplay_38 : decode cX0_toReplay 38 = .ok (.invokestatic 101, 3) := by decide +kernel
theorem dX0_toReplay_41 : decode cX0_toReplay 41 = .ok (.ifCond .eq 11, 3) := by decide +kernel
theorem dX0_toReplay_44 : decode cX0_toReplay 44 = .ok (.aload_n 0, 1) := by decide +kernel
theorem dX0_toReplay_45 : decode cX0_toReplay 45 = .ok (.iload 8, 2) := by decide +kernel
theorem dX0_toReplay_47 : decode cX0_toReplay 47 = .ok (.invokevirtual 90, 3) := by decide +kernel
theorem dX0_toReplay_50 : decode cX0_toReplay 50 = .ok (.lstore 6, 2) := by decide +kernel
theorem dX0_toReplay_52 : decode cX0_toReplay 52 = .ok (.iinc 8 1, 3) := by decide +kernel
theorem dX0_toReplay_55 : decode cX0_toReplay 55 = .ok (.goto (-30), 3) := by decide +kernel
theorem dX0_toReplay_58 : decode cX0_toReplay 58 = .ok (.lload_n 2, 1) := by decide +kernel
theorem dX0_toReplay_59 : decode cX0_toReplay 59 = .ok (.lload 6, 2) := by decide +kernel
theorem dX0_toReplay_61 : decode cX0_toReplay 61 = .ok (.ldc2_w 112, 3) := by decide +kernel
theorem dX0_toReplay_64 : decode cX0_toReplay 64 = .ok (.lxor, 1) := by decide +kernel
theorem dX0_toReplay_65 : decode cX0_toReplay 65 = .ok (.land, 1) := by decide +kernel
theorem dX0_toReplay_66 : decode cX0_toReplay 66 = .ok (.invokestatic 114, 3) := by decide +kernel
theorem dX0_toReplay_69 : decode cX0_toReplay 69 = .ok (.ireturn, 1) := by decide +kernel
set_option maxRecDepth 20000 in
theorem ggX0_runs_X0_checkAuthor : GoodIn wsX0_runs wsX0_checkAuthor := goodIn_ca (goodIn_r _ [7, 8, 9] (by decide +kernel) (by decide +kernel)) (goodIn_sub (fun _ h => List.mem_cons_of_mem _ (List.mem_append_right _ h)) (by decide +kernel))
set_option maxRecDepth 20000 in
theorem gX0_runs_X0_checkAuthor : GoodIn wsX0_runs (wsV RX0 54 RX0 yX0_checkAuthor wsX0_checkAuthor) := goodIn_app (goodIn_of _ (by decide +kernel)) ggX0_runs_X0_checkAuthor
set_option maxRecDepth 20000 in
theorem ggX0_runs_X0_has : GoodIn wsX0_runs wsX0_has := goodIn_r _ [12, 13, 14, 6, 15] (by decide +kernel) (by decide +kernel)
set_option maxRecDepth 20000 in
theorem gX0_runs_X0_has : GoodIn wsX0_runs (va_wsS RX0 101 yX0_has wsX0_has) := goodIn_app (goodIn_of _ (by decide +kernel)) ggX0_runs_X0_has
set_option maxRecDepth 20000 in
theorem ggX0_runs_X0_continuesRun : GoodIn wsX0_runs wsX0_continuesRun := goodIn_r _ [19, 20, 21, 22, 23, 24, 25, 6, 26, 27, 28, 29, 30, 31, 2, 13, 14, 15, 32, 33, 34, 35, 36, 37, 38, 39, 40, 41, 42, 43, 44, 45] (by decide +kernel) (by decide +kernel)
set_option maxRecDepth 20000 in
theorem gX0_runs_X0_continuesRun : GoodIn wsX0_runs (wsV RX0 122 RX0 yX0_continuesRun wsX0_continuesRun) := goodIn_app (goodIn_of _ (by decide +kernel)) ggX0_runs_X0_continuesRun
theorem dX0_runs_0 : decode cX0_runs 0 = .ok (.aload_n 0, 1) := by decide +kernel
theorem dX0_runs_1 : decode cX0_runs 1 = .ok (.iload_n 1, 1) := by decide +kernel
theorem dX0_runs_2 : decode cX0_runs 2 = .ok (.invokevirtual 54, 3) := by decide +kernel
theorem dX0_runs_5 : decode cX0_runs 5 = .ok (.aload_n 0, 1) := by decide +kernel
theorem dX0_runs_6 : decode cX0_runs 6 = .ok (.getfield 33, 3) := by decide +kernel
theorem dX0_runs_9 : decode cX0_runs 9 = .ok (.iload_n 1, 1) := by decide +kernel
theorem dX0_runs_10 : decode cX0_runs 10 = .ok (.laload, 1) := by decide +kernel
theorem dX0_runs_11 : decode cX0_runs 11 = .ok (.lstore_n 2, 1) := by decide +kernel
theorem dX0_runs_12 : decode cX0_runs 12 = .ok (.iconst 0, 1) := by decide +kernel
theorem dX0_runs_13 : decode cX0_runs 13 = .ok (.istore 4, 2) := by decide +kernel
theorem dX0_runs_15 : decode cX0_runs 15 = .ok (.iconst 0, 1) := by decide +kernel
theorem dX0_runs_16 : decode cX0_runs 16 = .ok (.istore 5, 2) := by decide +kernel
theorem dX0_runs_18 : decode cX0_runs 18 = .ok (.iload 5, 2) := by decide +kernel
theorem dX0_runs_20 : decode cX0_runs 20 = .ok (.aload_n 0, 1) := by decide +kernel
theorem dX0_runs_21 : decode cX0_runs 21 = .ok (.getfield 7, 3) := by decide +kernel
theorem dX0_runs_24 : decode cX0_runs 24 = .ok (.if_icmp .ge 30, 3) := by decide +kernel
theorem dX0_runs_27 : decode cX0_runs 27 = .ok (.lload_n 2, 1) := by decide +kernel
theorem dX0_runs_28 : decode cX0_runs 28 = .ok (.iload 5, 2) := by decide +kernel
theorem dX0_runs_30 : decode cX0_runs 30 = .ok (.invokestatic 101, 3) := by decide +kernel
theorem dX0_runs_33 : decode cX0_runs 33 = .ok (.ifCond .eq 15, 3) := by decide +kernel
theorem dX0_runs_36 : decode cX0_runs 36 = .ok (.aload_n 0, 1) := by decide +kernel
theorem dX0_runs_37 : decode cX0_runs 37 = .ok (.iload 5, 2) := by decide +kernel
theorem dX0_runs_39 : decode cX0_runs 39 = .ok (.invokevirtual 122, 3) := by decide +kernel
theorem dX0_runs_42 : decode cX0_runs 42 = .ok (.ifCond .ne 6, 3) := by decide +kernel
theorem dX0_runs_45 : decode cX0_runs 45 = .ok (.iinc 4 1, 3) := by decide +kernel
theorem dX0_runs_48 : decode cX0_runs 48 = .ok (.iinc 5 1, 3) := by decide +kernel
theorem dX0_runs_51 : decode cX0_runs 51 = .ok (.goto (-33), 3) := by decide +kernel
theorem dX0_runs_54 : decode cX0_runs 54 = .ok (.iload 4, 2) := by decide +kernel
theorem dX0_runs_56 : decode cX0_runs 56 = .ok (.ireturn, 1) := by decide +kernel
theorem dX0_checkAuthor_0 : decode cX0_checkAuthor 0 = .ok (.iload_n 1, 1) := by decide +kernel
theorem dX0_checkAuthor_1 : decode cX0_checkAuthor 1 = .ok (.ifCond .lt 8, 3) := by decide +kernel
theorem dX0_checkAuthor_4 : decode cX0_checkAuthor 4 = .ok (.iload_n 1, 1) := by decide +kernel
theorem dX0_checkAuthor_5 : decode cX0_checkAuthor 5 = .ok (.iconst 4, 1) := by decide +kernel
theorem dX0_checkAuthor_6 : decode cX0_checkAuthor 6 = .ok (.if_icmp .lt 13, 3) := by decide +kernel
theorem dX0_checkAuthor_9 : decode cX0_checkAuthor 9 = .ok (.new 126, 3) := by decide +kernel
theorem dX0_checkAuthor_12 : decode cX0_checkAuthor 12 = .ok (.dup, 1) := by decide +kernel
theorem dX0_checkAuthor_13 : decode cX0_checkAuthor 13 = .ok (.ldc 128, 2) := by decide +kernel
theorem dX0_checkAuthor_15 : decode cX0_checkAuthor 15 = .ok (.invokespecial 130, 3) := by decide +kernel
theorem dX0_checkAuthor_18 : decode cX0_checkAuthor 18 = .ok (.athrow, 1) := by decide +kernel
theorem dX0_checkAuthor_19 : decode cX0_checkAuthor 19 = .ok (.return_, 1) := by decide +kernel
set_option maxRecDepth 20000 in
theorem ggX0_checkEvent_X0_isEvent : GoodIn wsX0_checkEvent wsX0_isEvent := goodIn_r _ [7, 8, 9, 10, 11, 12, 13, 14, 15, 16, 17, 18, 19, 20, 21, 22] (by decide +kernel) (by decide +kernel)
set_option maxRecDepth 20000 in
theorem gX0_checkEvent_X0_isEvent : GoodIn wsX0_checkEvent (wsV RX0 131 RX0 yX0_isEvent wsX0_isEvent) := goodIn_app (goodIn_of _ (by decide +kernel)) ggX0_checkEvent_X0_isEvent
theorem dX0_checkEvent_0 : decode cX0_checkEvent 0 = .ok (.aload_n 0, 1) := by decide +kernel
theorem dX0_checkEvent_1 : decode cX0_checkEvent 1 = .ok (.iload_n 1, 1) := by decide +kernel
theorem dX0_checkEvent_2 : decode cX0_checkEvent 2 = .ok (.invokevirtual 131, 3) := by decide +kernel
theorem dX0_checkEvent_5 : decode cX0_checkEvent 5 = .ok (.ifCond .ne 13, 3) := by decide +kernel
theorem dX0_checkEvent_8 : decode cX0_checkEvent 8 = .ok (.new 126, 3) := by decide +kernel
theorem dX0_checkEvent_11 : decode cX0_checkEvent 11 = .ok (.dup, 1) := by decide +kernel
theorem dX0_checkEvent_12 : decode cX0_checkEvent 12 = .ok (.ldc 134, 2) := by decide +kernel
theorem dX0_checkEvent_14 : decode cX0_checkEvent 14 = .ok (.invokespecial 130, 3) := by decide +kernel
theorem dX0_checkEvent_17 : decode cX0_checkEvent 17 = .ok (.athrow, 1) := by decide +kernel
theorem dX0_checkEvent_18 : decode cX0_checkEvent 18 = .ok (.return_, 1) := by decide +kernel
theorem dX0_checkPlace_0 : decode cX0_checkPlace 0 = .ok (.iload_n 1, 1) := by decide +kernel
theorem dX0_checkPlace_1 : decode cX0_checkPlace 1 = .ok (.ifCond .lt 8, 3) := by decide +kernel
theorem dX0_checkPlace_4 : decode cX0_checkPlace 4 = .ok (.iload_n 1, 1) := by decide +kernel
theorem dX0_checkPlace_5 : decode cX0_checkPlace 5 = .ok (.iload_n 2, 1) := by decide +kernel
theorem dX0_checkPlace_6 : decode cX0_checkPlace 6 = .ok (.if_icmp .lt 13, 3) := by decide +kernel
theorem dX0_checkPlace_9 : decode cX0_checkPlace 9 = .ok (.new 126, 3) := by decide +kernel
theorem dX0_checkPlace_12 : decode cX0_checkPlace 12 = .ok (.dup, 1) := by decide +kernel
theorem dX0_checkPlace_13 : decode cX0_checkPlace 13 = .ok (.ldc 136, 2) := by decide +kernel
theorem dX0_checkPlace_15 : decode cX0_checkPlace 15 = .ok (.invokespecial 130, 3) := by decide +kernel
theorem dX0_checkPlace_18 : decode cX0_checkPlace 18 = .ok (.athrow, 1) := by decide +kernel
theorem dX0_checkPlace_19 : decode cX0_checkPlace 19 = .ok (.return_, 1) := by decide +kernel
theorem dX0_checkRoom_0 : decode cX0_checkRoom 0 = .ok (.aload_n 0, 1) := by decide +kernel
theorem dX0_checkRoom_1 : decode cX0_checkRoom 1 = .ok (.getfield 7, 3) := by decide +kernel
theorem dX0_checkRoom_4 : decode cX0_checkRoom 4 = .ok (.bipush 60, 2) := by decide +kernel
theorem dX0_checkRoom_6 : decode cX0_checkRoom 6 = .ok (.if_icmp .lt 13, 3) := by decide +kernel
theorem dX0_checkRoom_9 : decode cX0_checkRoom 9 = .ok (.new 138, 3) := by decide +kernel
theorem dX0_checkRoom_12 : decode cX0_checkRoom 12 = .ok (.dup, 1) := by decide +kernel
theorem dX0_checkRoom_13 : decode cX0_checkRoom 13 = .ok (.ldc 140, 2) := by decide +kernel
theorem dX0_checkRoom_15 : decode cX0_checkRoom 15 = .ok (.invokespecial 142, 3) := by decide +kernel
theorem dX0_checkRoom_18 : decode cX0_checkRoom 18 = .ok (.athrow, 1) := by decide +kernel
theorem dX0_checkRoom_19 : decode cX0_checkRoom 19 = .ok (.return_, 1) := by decide +kernel
theorem dX0_isEvent_0 : decode cX0_isEvent 0 = .ok (.iload_n 1, 1) := by decide +kernel
theorem dX0_isEvent_1 : decode cX0_isEvent 1 = .ok (.ifCond .lt 15, 3) := by decide +kernel
theorem dX0_isEvent_4 : decode cX0_isEvent 4 = .ok (.iload_n 1, 1) := by decide +kernel
theorem dX0_isEvent_5 : decode cX0_isEvent 5 = .ok (.aload_n 0, 1) := by decide +kernel
theorem dX0_isEvent_6 : decode cX0_isEvent 6 = .ok (.getfield 7, 3) := by decide +kernel
theorem dX0_isEvent_9 : decode cX0_isEvent 9 = .ok (.if_icmp .ge 7, 3) := by decide +kernel
theorem dX0_isEvent_12 : decode cX0_isEvent 12 = .ok (.iconst 1, 1) := by decide +kernel
theorem dX0_isEvent_13 : decode cX0_isEvent 13 = .ok (.goto 4, 3) := by decide +kernel
theorem dX0_isEvent_16 : decode cX0_isEvent 16 = .ok (.iconst 0, 1) := by decide +kernel
theorem dX0_isEvent_17 : decode cX0_isEvent 17 = .ok (.ireturn, 1) := by decide +kernel
theorem dX0_only_0 : decode cX0_only 0 = .ok (.lconst 1, 1) := by decide +kernel
theorem dX0_only_1 : decode cX0_only 1 = .ok (.iload_n 0, 1) := by decide +kernel
theorem dX0_only_2 : decode cX0_only 2 = .ok (.lshl, 1) := by decide +kernel
theorem dX0_only_3 : decode cX0_only 3 = .ok (.lreturn, 1) := by decide +kernel
set_option maxRecDepth 20000 in
theorem ggX0_has_X0_only : GoodIn wsX0_has wsX0_only := goodIn_r _ [4] (by decide +kernel) (by decide +kernel)
set_option maxRecDepth 20000 in
theorem gX0_has_X0_only : GoodIn wsX0_has (va_wsS RX0 143 yX0_only wsX0_only) := goodIn_app (goodIn_of _ (by decide +kernel)) ggX0_has_X0_only
theorem dX0_has_0 : decode cX0_has 0 = .ok (.lload_n 0, 1) := by decide +kernel
theorem dX0_has_1 : decode cX0_has 1 = .ok (.iload_n 2, 1) := by decide +kernel
theorem dX0_has_2 : decode cX0_has 2 = .ok (.invokestatic 143, 3) := by decide +kernel
theorem dX0_has_5 : decode cX0_has 5 = .ok (.land, 1) := by decide +kernel
theorem dX0_has_6 : decode cX0_has 6 = .ok (.lconst 0, 1) := by decide +kernel
theorem dX0_has_7 : decode cX0_has 7 = .ok (.lcmp, 1) := by decide +kernel
theorem dX0_has_8 : decode cX0_has 8 = .ok (.ifCond .eq 7, 3) := by decide +kernel
theorem dX0_has_11 : decode cX0_has 11 = .ok (.iconst 1, 1) := by decide +kernel
theorem dX0_has_12 : decode cX0_has 12 = .ok (.goto 4, 3) := by decide +kernel
theorem dX0_has_15 : decode cX0_has 15 = .ok (.iconst 0, 1) := by decide +kernel
theorem dX0_has_16 : decode cX0_has 16 = .ok (.ireturn, 1) := by decide +kernel
set_option maxRecDepth 20000 in
theorem ggX0_versionOfEvent_X0_only : GoodIn wsX0_versionOfEvent wsX0_only := goodIn_r _ [5] (by decide +kernel) (by decide +kernel)
set_option maxRecDepth 20000 in
theorem gX0_versionOfEvent_X0_only : GoodIn wsX0_versionOfEvent (va_wsS RX0 143 yX0_only wsX0_only) := goodIn_app (goodIn_of _ (by decide +kernel)) ggX0_versionOfEvent_X0_only
theorem dX0_versionOfEvent_0 : decode cX0_versionOfEvent 0 = .ok (.aload_n 0, 1) := by decide +kernel
theorem dX0_versionOfEvent_1 : decode cX0_versionOfEvent 1 = .ok (.getfield 27, 3) := by decide +kernel
theorem dX0_versionOfEvent_4 : decode cX0_versionOfEvent 4 = .ok (.iload_n 1, 1) := by decide +kernel
theorem dX0_versionOfEvent_5 : decode cX0_versionOfEvent 5 = .ok (.laload, 1) := by decide +kernel
theorem dX0_versionOfEvent_6 : decode cX0_versionOfEvent 6 = .ok (.iload_n 1, 1) := by decide +kernel
theorem dX0_versionOfEvent_7 : decode cX0_versionOfEvent 7 = .ok (.invokestatic 143, 3) := by decide +kernel
theorem dX0_versionOfEvent_10 : decode cX0_versionOfEvent 10 = .ok (.lor, 1) := by decide +kernel
theorem dX0_versionOfEvent_11 : decode cX0_versionOfEvent 11 = .ok (.lreturn, 1) := by decide +kernel
set_option maxRecDepth 20000 in
theorem ggX0_relatedTo_X0_versionOfEvent : GoodIn wsX0_relatedTo wsX0_versionOfEvent := goodIn_r _ [6, 7, 8, 9, 5, 10, 11, 12, 13, 14, 15, 16, 17, 18, 19, 20, 21, 22, 23, 24] (by decide +kernel) (by decide +kernel)
set_option maxRecDepth 20000 in
theorem gX0_relatedTo_X0_versionOfEvent : GoodIn wsX0_relatedTo (wsV RX0 90 RX0 yX0_versionOfEvent wsX0_versionOfEvent) := goodIn_app (goodIn_of _ (by decide +kernel)) ggX0_relatedTo_X0_versionOfEvent
theorem dX0_relatedTo_0 : decode cX0_relatedTo 0 = .ok (.aload_n 0, 1) := by decide +kernel
theorem dX0_relatedTo_1 : decode cX0_relatedTo 1 = .ok (.iload_n 1, 1) := by decide +kernel
theorem dX0_relatedTo_2 : decode cX0_relatedTo 2 = .ok (.invokevirtual 90, 3) := by decide +kernel
theorem dX0_relatedTo_5 : decode cX0_relatedTo 5 = .ok (.aload_n 0, 1) := by decide +kernel
theorem dX0_relatedTo_6 : decode cX0_relatedTo 6 = .ok (.getfield 30, 3) := by decide +kernel
theorem dX0_relatedTo_9 : decode cX0_relatedTo 9 = .ok (.iload_n 1, 1) := by decide +kernel
theorem dX0_relatedTo_10 : decode cX0_relatedTo 10 = .ok (.laload, 1) := by decide +kernel
theorem dX0_relatedTo_11 : decode cX0_relatedTo 11 = .ok (.lor, 1) := by decide +kernel
theorem dX0_relatedTo_12 : decode cX0_relatedTo 12 = .ok (.lreturn, 1) := by decide +kernel
set_option maxRecDepth 20000 in
theorem ggX0_headsOf_X0_has : GoodIn wsX0_headsOf wsX0_has := goodIn_r _ [7, 8, 9, 6, 10] (by decide +kernel) (by decide +kernel)
set_option maxRecDepth 20000 in
theorem gX0_headsOf_X0_has : GoodIn wsX0_headsOf (va_wsS RX0 101 yX0_has wsX0_has) := goodIn_app (goodIn_of _ (by decide +kernel)) ggX0_headsOf_X0_has
theorem dX0_headsOf_0 : decode cX0_headsOf 0 = .ok (.lconst 0, 1) := by decide +kernel
theorem dX0_headsOf_1 : decode cX0_headsOf 1 = .ok (.lstore_n 3, 1) := by decide +kernel
theorem dX0_headsOf_2 : decode cX0_headsOf 2 = .ok (.iconst 0, 1) := by decide +kernel
theorem dX0_headsOf_3 : decode cX0_headsOf 3 = .ok (.istore 5, 2) := by decide +kernel
theorem dX0_headsOf_5 : decode cX0_headsOf 5 = .ok (.iload 5, 2) := by decide +kernel
theorem dX0_headsOf_7 : decode cX0_headsOf 7 = .ok (.aload_n 0, 1) := by decide +kernel
theorem dX0_headsOf_8 : decode cX0_headsOf 8 = .ok (.getfield 7, 3) := by decide +kernel
theorem dX0_headsOf_11 : decode cX0_headsOf 11 = .ok (.if_icmp .ge 28, 3) := by decide +kernel
theorem dX0_headsOf_14 : decode cX0_headsOf 14 = .ok (.lload_n 1, 1) := by decide +kernel
theorem dX0_headsOf_15 : decode cX0_headsOf 15 = .ok (.iload 5, 2) := by decide +kernel
theorem dX0_headsOf_17 : decode cX0_headsOf 17 = .ok (.invokestatic 101, 3) := by decide +kernel
theorem dX0_headsOf_20 : decode cX0_headsOf 20 = .ok (.ifCond .eq 13, 3) := by decide +kernel
theorem dX0_headsOf_23 : decode cX0_headsOf 23 = .ok (.lload_n 3, 1) := by decide +kernel
theorem dX0_headsOf_24 : decode cX0_headsOf 24 = .ok (.aload_n 0, 1) := by decide +kernel
theorem dX0_headsOf_25 : decode cX0_headsOf 25 = .ok (.getfield 23, 3) := by decide +kernel
theorem dX0_headsOf_28 : decode cX0_headsOf 28 = .ok (.iload 5, 2) := by decide +kernel
theorem dX0_headsOf_30 : decode cX0_headsOf 30 = .ok (.laload, 1) := by decide +kernel
theorem dX0_headsOf_31 : decode cX0_headsOf 31 = .ok (.lor, 1) := by decide +kernel
theorem dX0_headsOf_32 : decode cX0_headsOf 32 = .ok (.lstore_n 3, 1) := by decide +kernel
theorem dX0_headsOf_33 : decode cX0_headsOf 33 = .ok (.iinc 5 1, 3) := by decide +kernel
theorem dX0_headsOf_36 : decode cX0_headsOf 36 = .ok (.goto (-31), 3) := by decide +kernel
theorem dX0_headsOf_39 : decode cX0_headsOf 39 = .ok (.lload_n 1, 1) := by decide +kernel
theorem dX0_headsOf_40 : decode cX0_headsOf 40 = .ok (.lload_n 3, 1) := by decide +kernel
theorem dX0_headsOf_41 : decode cX0_headsOf 41 = .ok (.ldc2_w 112, 3) := by decide +kernel
theorem dX0_headsOf_44 : decode cX0_headsOf 44 = .ok (.lxor, 1) := by decide +kernel
theorem dX0_headsOf_45 : decode cX0_headsOf 45 = .ok (.land, 1) := by decide +kernel
theorem dX0_headsOf_46 : decode cX0_headsOf 46 = .ok (.lreturn, 1) := by decide +kernel
set_option maxRecDepth 20000 in
theorem ggX0_criticalOf_X0_has : GoodIn wsX0_criticalOf wsX0_has := goodIn_r _ [6, 7, 8, 5, 9] (by decide +kernel) (by decide +kernel)
set_option maxRecDepth 20000 in
theorem gX0_criticalOf_X0_has : GoodIn wsX0_criticalOf (va_wsS RX0 101 yX0_has wsX0_has) := goodIn_app (goodIn_of _ (by decide +kernel)) ggX0_criticalOf_X0_has
set_option maxRecDepth 20000 in
theorem ggX0_criticalOf_X0_relatedTo : GoodIn wsX0_criticalOf wsX0_relatedTo := goodIn_r _ [13, 14, 15, 16, 17, 5, 18, 19, 7, 8, 9, 20, 21, 22, 23, 24, 25, 26, 27, 28, 29, 30, 31, 32, 33] (by decide +kernel) (by decide +kernel)
set_option maxRecDepth 20000 in
theorem gX0_criticalOf_X0_relatedTo : GoodIn wsX0_criticalOf (wsV RX0 109 RX0 yX0_relatedTo wsX0_relatedTo) := goodIn_app (goodIn_of _ (by decide +kernel)) ggX0_criticalOf_X0_relatedTo
set_option maxRecDepth 20000 in
theorem ggX0_criticalOf_X0_only : GoodIn wsX0_criticalOf wsX0_only := goodIn_r _ [9] (by decide +kernel) (by decide +kernel)
set_option maxRecDepth 20000 in
theorem gX0_criticalOf_X0_only : GoodIn wsX0_criticalOf (va_wsS RX0 143 yX0_only wsX0_only) := goodIn_app (goodIn_of _ (by decide +kernel)) ggX0_criticalOf_X0_only
theorem dX0_criticalOf_0 : decode cX0_criticalOf 0 = .ok (.lconst 0, 1) := by decide +kernel
theorem dX0_criticalOf_1 : decode cX0_criticalOf 1 = .ok (.lstore_n 3, 1) := by decide +kernel
theorem dX0_criticalOf_2 : decode cX0_criticalOf 2 = .ok (.iconst 0, 1) := by decide +kernel
theorem dX0_criticalOf_3 : decode cX0_criticalOf 3 = .ok (.istore 5, 2) := by decide +kernel
theorem dX0_criticalOf_5 : decode cX0_criticalOf 5 = .ok (.iload 5, 2) := by decide +kernel
theorem dX0_criticalOf_7 : decode cX0_criticalOf 7 = .ok (.aload_n 0, 1) := by decide +kernel
theorem dX0_criticalOf_8 : decode cX0_criticalOf 8 = .ok (.getfield 7, 3) := by decide +kernel
theorem dX0_criticalOf_11 : decode cX0_criticalOf 11 = .ok (.if_icmp .ge 43, 3) := by decide +kernel
theorem dX0_criticalOf_14 : decode cX0_criticalOf 14 = .ok (.lload_n 1, 1) := by decide +kernel
theorem dX0_criticalOf_15 : decode cX0_criticalOf 15 = .ok (.iload 5, 2) := by decide +kernel
theorem dX0_criticalOf_17 : decode cX0_criticalOf 17 = .ok (.invokestatic 101, 3) := by decide +kernel
theorem dX0_criticalOf_20 : decode cX0_criticalOf 20 = .ok (.ifCond .eq 28, 3) := by decide +kernel
theorem dX0_criticalOf_23 : decode cX0_criticalOf 23 = .ok (.lload_n 1, 1) := by decide +kernel
theorem dX0_criticalOf_24 : decode cX0_criticalOf 24 = .ok (.aload_n 0, 1) := by decide +kernel
theorem dX0_criticalOf_25 : decode cX0_criticalOf 25 = .ok (.iload 5, 2) := by decide +kernel
theorem dX0_criticalOf_27 : decode cX0_criticalOf 27 = .ok (.invokevirtual 109, 3) := by decide +kernel
theorem dX0_criticalOf_30 : decode cX0_criticalOf 30 = .ok (.ldc2_w 112, 3) := by decide +kernel
theorem dX0_criticalOf_33 : decode cX0_criticalOf 33 = .ok (.lxor, 1) := by decide +kernel
theorem dX0_criticalOf_34 : decode cX0_criticalOf 34 = .ok (.land, 1) := by decide +kernel
theorem dX0_criticalOf_35 : decode cX0_criticalOf 35 = .ok (.lconst 0, 1) := by decide +kernel
theorem dX0_criticalOf_36 : decode cX0_criticalOf 36 = .ok (.lcmp, 1) := by decide +kernel
theorem dX0_criticalOf_37 : decode cX0_criticalOf 37 = .ok (.ifCond .ne 11, 3) := by decide +kernel
theorem dX0_criticalOf_40 : decode cX0_criticalOf 40 = .ok (.lload_n 3, 1) := by decide +kernel
theorem dX0_criticalOf_41 : decode cX0_criticalOf 41 = .ok (.iload 5, 2) := by decide +kernel
theorem dX0_criticalOf_43 : decode cX0_criticalOf 43 = .ok (.invokestatic 143, 3) := by decide +kernel
theorem dX0_criticalOf_46 : decode cX0_criticalOf 46 = .ok (.lor, 1) := by decide +kernel
theorem dX0_criticalOf_47 : decode cX0_criticalOf 47 = .ok (.lstore_n 3, 1) := by decide +kernel
theorem dX0_criticalOf_48 : decode cX0_criticalOf 48 = .ok (.iinc 5 1, 3) := by decide +kernel
theorem dX0_criticalOf_51 : decode cX0_criticalOf 51 = .ok (.goto (-46), 3) := by decide +kernel
theorem dX0_criticalOf_54 : decode cX0_criticalOf 54 = .ok (.lload_n 3, 1) := by decide +kernel
theorem dX0_criticalOf_55 : decode cX0_criticalOf 55 = .ok (.lreturn, 1) := by decide +kernel
set_option maxRecDepth 20000 in
theorem ggX0_continuesRun_X0_isInsert : GoodIn wsX0_continuesRun wsX0_isInsert := goodIn_r _ [8, 9, 18, 19, 20, 21, 22, 23, 24, 25, 26, 27, 28, 29, 30, 31] (by decide +kernel) (by decide +kernel)
set_option maxRecDepth 20000 in
theorem gX0_continuesRun_X0_isInsert : GoodIn wsX0_continuesRun (wsV RX0 146 RX0 yX0_isInsert wsX0_isInsert) := goodIn_app (goodIn_of _ (by decide +kernel)) ggX0_continuesRun_X0_isInsert
set_option maxRecDepth 20000 in
theorem ggX0_continuesRun_X0_isEvent : GoodIn wsX0_continuesRun wsX0_isEvent := goodIn_r _ [13, 14, 18, 19, 20, 21, 22, 23, 24, 25, 26, 27, 28, 29, 30, 31] (by decide +kernel) (by decide +kernel)
set_option maxRecDepth 20000 in
theorem gX0_continuesRun_X0_isEvent : GoodIn wsX0_continuesRun (wsV RX0 131 RX0 yX0_isEvent wsX0_isEvent) := goodIn_app (goodIn_of _ (by decide +kernel)) ggX0_continuesRun_X0_isEvent
set_option maxRecDepth 20000 in
theorem ggX0_continuesRun_X0_only : GoodIn wsX0_continuesRun wsX0_only := goodIn_r _ [17] (by decide +kernel) (by decide +kernel)
set_option maxRecDepth 20000 in
theorem gX0_continuesRun_X0_only : GoodIn wsX0_continuesRun (va_wsS RX0 143 yX0_only wsX0_only) := goodIn_app (goodIn_of _ (by decide +kernel)) ggX0_continuesRun_X0_only
theorem dX0_continuesRun_0 : decode cX0_continuesRun 0 = .ok (.aload_n 0, 1) := by decide +kernel
theorem dX0_continuesRun_1 : decode cX0_continuesRun 1 = .ok (.getfield 20, 3) := by decide +kernel
theorem dX0_continuesRun_4 : decode cX0_continuesRun 4 = .ok (.iload_n 1, 1) := by decide +kernel
theorem dX0_continuesRun_5 : decode cX0_continuesRun 5 = .ok (.iaload, 1) := by decide +kernel
theorem dX0_continuesRun_6 : decode cX0_continuesRun 6 = .ok (.istore_n 2, 1) := by decide +kernel
theorem dX0_continuesRun_7 : decode cX0_continuesRun 7 = .ok (.aload_n 0, 1) := by decide +kernel
theorem dX0_continuesRun_8 : decode cX0_continuesRun 8 = .ok (.iload_n 1, 1) := by decide +kernel
theorem dX0_continuesRun_9 : decode cX0_continuesRun 9 = .ok (.invokevirtual 146, 3) := by decide +kernel
theorem dX0_continuesRun_12 : decode cX0_continuesRun 12 = .ok (.ifCond .eq 44, 3) := by decide +kernel
theorem dX0_continuesRun_15 : decode cX0_continuesRun 15 = .ok (.aload_n 0, 1) := by decide +kernel
theorem dX0_continuesRun_16 : decode cX0_continuesRun 16 = .ok (.iload_n 2, 1) := by decide +kernel
theorem dX0_continuesRun_17 : decode cX0_continuesRun 17 = .ok (.invokevirtual 131, 3) := by decide +kernel
theorem dX0_continuesRun_20 : decode cX0_continuesRun 20 = .ok (.ifCond .eq 36, 3) := by decide +kernel
theorem dX0_continuesRun_23 : decode cX0_continuesRun 23 = .ok (.aload_n 0, 1) := by decide +kernel
theorem dX0_continuesRun_24 : decode cX0_continuesRun 24 = .ok (.getfield 23, 3) := by decide +kernel
theorem dX0_continuesRun_27 : decode cX0_continuesRun 27 = .ok (.iload_n 1, 1) := by decide +kernel
theorem dX0_continuesRun_28 : decode cX0_continuesRun 28 = .ok (.laload, 1) := by decide +kernel
theorem dX0_continuesRun_29 : decode cX0_continuesRun 29 = .ok (.iload_n 2, 1) := by decide +kernel
theorem dX0_continuesRun_30 : decode cX0_continuesRun 30 = .ok (.invokestatic 143, 3) := by decide +kernel
theorem dX0_continuesRun_33 : decode cX0_continuesRun 33 = .ok (.lcmp, 1) := by decide +kernel
theorem dX0_continuesRun_34 : decode cX0_continuesRun 34 = .ok (.ifCond .ne 22, 3) := by decide +kernel
theorem dX0_continuesRun_37 : decode cX0_continuesRun 37 = .ok (.aload_n 0, 1) := by decide +kernel
theorem dX0_continuesRun_38 : decode cX0_continuesRun 38 = .ok (.getfield 13, 3) := by decide +kernel
theorem dX0_continuesRun_41 : decode cX0_continuesRun 41 = .ok (.iload_n 1, 1) := by decide +kernel
theorem dX0_continuesRun_42 : decode cX0_continuesRun 42 = .ok (.iaload, 1) := by decide +kernel
theorem dX0_continuesRun_43 : decode cX0_continuesRun 43 = .ok (.aload_n 0, 1) := by decide +kernel
theorem dX0_continuesRun_44 : decode cX0_continuesRun 44 = .ok (.getfield 13, 3) := by decide +kernel
theorem dX0_continuesRun_47 : decode cX0_continuesRun 47 = .ok (.iload_n 2, 1) := by decide +kernel
theorem dX0_continuesRun_48 : decode cX0_continuesRun 48 = .ok (.iaload, 1) := by decide +kernel
theorem dX0_continuesRun_49 : decode cX0_continuesRun 49 = .ok (.if_icmp .ne 7, 3) := by decide +kernel
theorem dX0_continuesRun_52 : decode cX0_continuesRun 52 = .ok (.iconst 1, 1) := by decide +kernel
theorem dX0_continuesRun_53 : decode cX0_continuesRun 53 = .ok (.goto 4, 3) := by decide +kernel
theorem dX0_continuesRun_56 : decode cX0_continuesRun 56 = .ok (.iconst 0, 1) := by decide +kernel
theorem dX0_continuesRun_57 : decode cX0_continuesRun 57 = .ok (.ireturn, 1) := by decide +kernel
set_option maxRecDepth 20000 in
theorem ggX0_addEvent_X0_headsOf : GoodIn wsX0_addEvent wsX0_headsOf := goodIn_r _ [12, 1, 6, 13, 14, 15, 11, 16, 17, 18, 19, 25, 26, 27, 28, 29, 30, 31, 32, 33, 34, 35, 36, 37, 38] (by decide +kernel) (by decide +kernel)
set_option maxRecDepth 20000 in
theorem gX0_addEvent_X0_headsOf : GoodIn wsX0_addEvent (wsV RX0 105 RX0 yX0_headsOf wsX0_headsOf) := goodIn_app (goodIn_of _ (by decide +kernel)) ggX0_addEvent_X0_headsOf
set_option maxRecDepth 20000 in
theorem ggX0_addEvent_X0_markLater : GoodIn wsX0_addEvent wsX0_markLater := goodIn_r _ [23, 1, 24, 14, 15, 11, 16, 17, 18, 19, 25, 26, 27, 28, 29, 30, 31, 32, 33, 34, 35, 36, 37, 38] (by decide +kernel) (by decide +kernel)
set_option maxRecDepth 20000 in
theorem gX0_addEvent_X0_markLater : GoodIn wsX0_addEvent (wsV RX0 149 RX0 yX0_markLater wsX0_markLater) := goodIn_app (goodIn_of _ (by decide +kernel)) ggX0_addEvent_X0_markLater
set_option maxRecDepth 20000 in
theorem ggX0_addEvent_X0_only : GoodIn wsX0_addEvent wsX0_only := goodIn_r _ [19] (by decide +kernel) (by decide +kernel)
set_option maxRecDepth 20000 in
theorem gX0_addEvent_X0_only : GoodIn wsX0_addEvent (va_wsS RX0 143 yX0_only wsX0_only) := goodIn_app (goodIn_of _ (by decide +kernel)) ggX0_addEvent_X0_only
theorem dX0_addEvent_0 : decode cX0_addEvent 0 = .ok (.aload_n 0, 1) := by decide +kernel
theorem dX0_addEvent_1 : decode cX0_addEvent 1 = .ok (.getfield 7, 3) := by decide +kernel
theorem dX0_addEvent_4 : decode cX0_addEvent 4 = .ok (.istore 4, 2) := by decide +kernel
theorem dX0_addEvent_6 : decode cX0_addEvent 6 = .ok (.aload_n 0, 1) := by decide +kernel
theorem dX0_addEvent_7 : decode cX0_addEvent 7 = .ok (.getfield 33, 3) := by decide +kernel
theorem dX0_addEvent_10 : decode cX0_addEvent 10 = .ok (.iload_n 1, 1) := by decide +kernel
theorem dX0_addEvent_11 : decode cX0_addEvent 11 = .ok (.laload, 1) := by decide +kernel
theorem dX0_addEvent_12 : decode cX0_addEvent 12 = .ok (.lstore 5, 2) := by decide +kernel
theorem dX0_addEvent_14 : decode cX0_addEvent 14 = .ok (.aload_n 0, 1) := by decide +kernel
theorem dX0_addEvent_15 : decode cX0_addEvent 15 = .ok (.getfield 13, 3) := by decide +kernel
theorem dX0_addEvent_18 : decode cX0_addEvent 18 = .ok (.iload 4, 2) := by decide +kernel
theorem dX0_addEvent_20 : decode cX0_addEvent 20 = .ok (.iload_n 1, 1) := by decide +kernel
theorem dX0_addEvent_21 : decode cX0_addEvent 21 = .ok (.iastore, 1) := by decide +kernel
theorem dX0_addEvent_22 : decode cX0_addEvent 22 = .ok (.aload_n 0, 1) := by decide +kernel
theorem dX0_addEvent_23 : decode cX0_addEvent 23 = .ok (.getfield 17, 3) := by decide +kernel
theorem dX0_addEvent_26 : decode cX0_addEvent 26 = .ok (.iload 4, 2) := by decide +kernel
theorem dX0_addEvent_28 : decode cX0_addEvent 28 = .ok (.iload_n 2, 1) := by decide +kernel
theorem dX0_addEvent_29 : decode cX0_addEvent 29 = .ok (.iastore, 1) := by decide +kernel
theorem dX0_addEvent_30 : decode cX0_addEvent 30 = .ok (.aload_n 0, 1) := by decide +kernel
theorem dX0_addEvent_31 : decode cX0_addEvent 31 = .ok (.getfield 20, 3) := by decide +kernel
theorem dX0_addEvent_34 : decode cX0_addEvent 34 = .ok (.iload 4, 2) := by decide +kernel
theorem dX0_addEvent_36 : decode cX0_addEvent 36 = .ok (.iload_n 3, 1) := by decide +kernel
theorem dX0_addEvent_37 : decode cX0_addEvent 37 = .ok (.iastore, 1) := by decide +kernel
theorem dX0_addEvent_38 : decode cX0_addEvent 38 = .ok (.aload_n 0, 1) := by decide +kernel
theorem dX0_addEvent_39 : decode cX0_addEvent 39 = .ok (.getfield 23, 3) := by decide +kernel
theorem dX0_addEvent_42 : decode cX0_addEvent 42 = .ok (.iload 4, 2) := by decide +kernel
theorem dX0_addEvent_44 : decode cX0_addEvent 44 = .ok (.aload_n 0, 1) := by decide +kernel
theorem dX0_addEvent_45 : decode cX0_addEvent 45 = .ok (.lload 5, 2) := by decide +kernel
theorem dX0_addEvent_47 : decode cX0_addEvent 47 = .ok (.invokevirtual 105, 3) := by decide +kernel
theorem dX0_addEvent_50 : decode cX0_addEvent 50 = .ok (.lastore, 1) := by decide +kernel
theorem dX0_addEvent_51 : decode cX0_addEvent 51 = .ok (.aload_n 0, 1) := by decide +kernel
theorem dX0_addEvent_52 : decode cX0_addEvent 52 = .ok (.getfield 27, 3) := by decide +kernel
theorem dX0_addEvent_55 : decode cX0_addEvent 55 = .ok (.iload 4, 2) := by decide +kernel
theorem dX0_addEvent_57 : decode cX0_addEvent 57 = .ok (.lload 5, 2) := by decide +kernel
theorem dX0_addEvent_59 : decode cX0_addEvent 59 = .ok (.lastore, 1) := by decide +kernel
theorem dX0_addEvent_60 : decode cX0_addEvent 60 = .ok (.aload_n 0, 1) := by decide +kernel
theorem dX0_addEvent_61 : decode cX0_addEvent 61 = .ok (.lload 5, 2) := by decide +kernel
theorem dX0_addEvent_63 : decode cX0_addEvent 63 = .ok (.iload 4, 2) := by decide +kernel
theorem dX0_addEvent_65 : decode cX0_addEvent 65 = .ok (.invokevirtual 149, 3) := by decide +kernel
theorem dX0_addEvent_68 : decode cX0_addEvent 68 = .ok (.aload_n 0, 1) := by decide +kernel
theorem dX0_addEvent_69 : decode cX0_addEvent 69 = .ok (.getfield 33, 3) := by decide +kernel
theorem dX0_addEvent_72 : decode cX0_addEvent 72 = .ok (.iload_n 1, 1) := by decide +kernel
theorem dX0_addEvent_73 : decode cX0_addEvent 73 = .ok (.lload 5, 2) := by decide +kernel
theorem dX0_addEvent_75 : decode cX0_addEvent 75 = .ok (.iload 4, 2) := by decide +kernel
theorem dX0_addEvent_77 : decode cX0_addEvent 77 = .ok (.invokestatic 143, 3) := by decide +kernel
theorem dX0_addEvent_80 : decode cX0_addEvent 80 = .ok (.lor, 1) := by decide +kernel
theorem dX0_addEvent_81 : decode cX0_addEvent 81 = .ok (.lastore, 1) := by decide +kernel
theorem dX0_addEvent_82 : decode cX0_addEvent 82 = .ok (.aload_n 0, 1) := by decide +kernel
theorem dX0_addEvent_83 : decode cX0_addEvent 83 = .ok (.dup, 1) := by decide +kernel
theorem dX0_addEvent_84 : decode cX0_addEvent 84 = .ok (.getfield 7, 3) := by decide +kernel
theorem dX0_addEvent_87 : decode cX0_addEvent 87 = .ok (.iconst 1, 1) := by decide +kernel
theorem dX0_addEvent_88 : decode cX0_addEvent 88 = .ok (.iadd, 1) := by decide +kernel
theorem dX0_addEvent_89 : decode cX0_addEvent 89 = .ok (.putfield 7, 3) := by decide +kernel
theorem dX0_addEvent_92 : decode cX0_addEvent 92 = .ok (.iload 4, 2) := by decide +kernel
theorem dX0_addEvent_94 : decode cX0_addEvent 94 = .ok (.ireturn, 1) := by decide +kernel
set_option maxRecDepth 20000 in
theorem ggX0_markLater_X0_has : GoodIn wsX0_markLater wsX0_has := goodIn_r _ [6, 7, 8, 5, 9] (by decide +kernel) (by decide +kernel)
set_option maxRecDepth 20000 in
theorem gX0_markLater_X0_has : GoodIn wsX0_markLater (va_wsS RX0 101 yX0_has wsX0_has) := goodIn_app (goodIn_of _ (by decide +kernel)) ggX0_markLater_X0_has
set_option maxRecDepth 20000 in
theorem ggX0_markLater_X0_only : GoodIn wsX0_markLater wsX0_only := goodIn_r _ [9] (by decide +kernel) (by decide +kernel)
set_option maxRecDepth 20000 in
theorem gX0_markLater_X0_only : GoodIn wsX0_markLater (va_wsS RX0 143 yX0_only wsX0_only) := goodIn_app (goodIn_of _ (by decide +kernel)) ggX0_markLater_X0_only
theorem dX0_markLater_0 : decode cX0_markLater 0 = .ok (.iconst 0, 1) := by decide +kernel
theorem dX0_markLater_1 : decode cX0_markLater 1 = .ok (.istore 4, 2) := by decide +kernel
theorem dX0_markLater_3 : decode cX0_markLater 3 = .ok (.iload 4, 2) := by decide +kernel
theorem dX0_markLater_5 : decode cX0_markLater 5 = .ok (.aload_n 0, 1) := by decide +kernel
theorem dX0_markLater_6 : decode cX0_markLater 6 = .ok (.getfield 7, 3) := by decide +kernel
theorem dX0_markLater_9 : decode cX0_markLater 9 = .ok (.if_icmp .ge 32, 3) := by decide +kernel
theorem dX0_markLater_12 : decode cX0_markLater 12 = .ok (.lload_n 1, 1) := by decide +kernel
theorem dX0_markLater_13 : decode cX0_markLater 13 = .ok (.iload 4, 2) := by decide +kernel
theorem dX0_markLater_15 : decode cX0_markLater 15 = .ok (.invokestatic 101, 3) := by decide +kernel
theorem dX0_markLater_18 : decode cX0_markLater 18 = .ok (.ifCond .eq 17, 3) := by decide +kernel
theorem dX0_markLater_21 : decode cX0_markLater 21 = .ok (.aload_n 0, 1) := by decide +kernel
theorem dX0_markLater_22 : decode cX0_markLater 22 = .ok (.getfield 30, 3) := by decide +kernel
theorem dX0_markLater_25 : decode cX0_markLater 25 = .ok (.iload 4, 2) := by decide +kernel
theorem dX0_markLater_27 : decode cX0_markLater 27 = .ok (.dup2, 1) := by decide +kernel
theorem dX0_markLater_28 : decode cX0_markLater 28 = .ok (.laload, 1) := by decide +kernel
theorem dX0_markLater_29 : decode cX0_markLater 29 = .ok (.iload_n 3, 1) := by decide +kernel
theorem dX0_markLater_30 : decode cX0_markLater 30 = .ok (.invokestatic 143, 3) := by decide +kernel
theorem dX0_markLater_33 : decode cX0_markLater 33 = .ok (.lor, 1) := by decide +kernel
theorem dX0_markLater_34 : decode cX0_markLater 34 = .ok (.lastore, 1) := by decide +kernel
theorem dX0_markLater_35 : decode cX0_markLater 35 = .ok (.iinc 4 1, 3) := by decide +kernel
theorem dX0_markLater_38 : decode cX0_markLater 38 = .ok (.goto (-35), 3) := by decide +kernel
theorem dX0_markLater_41 : decode cX0_markLater 41 = .ok (.return_, 1) := by decide +kernel
set_option maxRecDepth 20000 in
theorem ggX0_hangLetter_X0_isEvent : GoodIn wsX0_hangLetter wsX0_isEvent := goodIn_r _ [8, 9, 10, 11, 12, 13, 14, 15, 16, 17, 18, 19, 20, 21, 22, 23] (by decide +kernel) (by decide +kernel)
set_option maxRecDepth 20000 in
theorem gX0_hangLetter_X0_isEvent : GoodIn wsX0_hangLetter (wsV RX0 131 RX0 yX0_isEvent wsX0_isEvent) := goodIn_app (goodIn_of _ (by decide +kernel)) ggX0_hangLetter_X0_isEvent
theorem dX0_hangLetter_0 : decode cX0_hangLetter 0 = .ok (.aload_n 0, 1) := by decide +kernel
theorem dX0_hangLetter_1 : decode cX0_hangLetter 1 = .ok (.getfield 39, 3) := by decide +kernel
theorem dX0_hangLetter_4 : decode cX0_hangLetter 4 = .ok (.iload_n 1, 1) := by decide +kernel
theorem dX0_hangLetter_5 : decode cX0_hangLetter 5 = .ok (.iconst (-1), 1) := by decide +kernel
theorem dX0_hangLetter_6 : decode cX0_hangLetter 6 = .ok (.iastore, 1) := by decide +kernel
theorem dX0_hangLetter_7 : decode cX0_hangLetter 7 = .ok (.aload_n 0, 1) := by decide +kernel
theorem dX0_hangLetter_8 : decode cX0_hangLetter 8 = .ok (.iload_n 2, 1) := by decide +kernel
theorem dX0_hangLetter_9 : decode cX0_hangLetter 9 = .ok (.invokevirtual 131, 3) := by decide +kernel
theorem dX0_hangLetter_12 : decode cX0_hangLetter 12 = .ok (.ifCond .eq 25, 3) := by decide +kernel
theorem dX0_hangLetter_15 : decode cX0_hangLetter 15 = .ok (.aload_n 0, 1) := by decide +kernel
theorem dX0_hangLetter_16 : decode cX0_hangLetter 16 = .ok (.getfield 42, 3) := by decide +kernel
theorem dX0_hangLetter_19 : decode cX0_hangLetter 19 = .ok (.iload_n 1, 1) := by decide +kernel
theorem dX0_hangLetter_20 : decode cX0_hangLetter 20 = .ok (.aload_n 0, 1) := by decide +kernel
theorem dX0_hangLetter_21 : decode cX0_hangLetter 21 = .ok (.getfield 39, 3) := by decide +kernel
theorem dX0_hangLetter_24 : decode cX0_hangLetter 24 = .ok (.iload_n 2, 1) := by decide +kernel
theorem dX0_hangLetter_25 : decode cX0_hangLetter 25 = .ok (.iaload, 1) := by decide +kernel
theorem dX0_hangLetter_26 : decode cX0_hangLetter 26 = .ok (.iastore, 1) := by decide +kernel
theorem dX0_hangLetter_27 : decode cX0_hangLetter 27 = .ok (.aload_n 0, 1) := by decide +kernel
theorem dX0_hangLetter_28 : decode cX0_hangLetter 28 = .ok (.getfield 39, 3) := by decide +kernel
theorem dX0_hangLetter_31 : decode cX0_hangLetter 31 = .ok (.iload_n 2, 1) := by decide +kernel
theorem dX0_hangLetter_32 : decode cX0_hangLetter 32 = .ok (.iload_n 1, 1) := by decide +kernel
theorem dX0_hangLetter_33 : decode cX0_hangLetter 33 = .ok (.iastore, 1) := by decide +kernel
theorem dX0_hangLetter_34 : decode cX0_hangLetter 34 = .ok (.goto 18, 3) := by decide +kernel
theorem dX0_hangLetter_37 : decode cX0_hangLetter 37 = .ok (.aload_n 0, 1) := by decide +kernel
theorem dX0_hangLetter_38 : decode cX0_hangLetter 38 = .ok (.getfield 42, 3) := by decide +kernel
theorem dX0_hangLetter_41 : decode cX0_hangLetter 41 = .ok (.iload_n 1, 1) := by decide +kernel
theorem dX0_hangLetter_42 : decode cX0_hangLetter 42 = .ok (.aload_n 0, 1) := by decide +kernel
theorem dX0_hangLetter_43 : decode cX0_hangLetter 43 = .ok (.getfield 36, 3) := by decide +kernel
theorem dX0_hangLetter_46 : decode cX0_hangLetter 46 = .ok (.iastore, 1) := by decide +kernel
theorem dX0_hangLetter_47 : decode cX0_hangLetter 47 = .ok (.aload_n 0, 1) := by decide +kernel
theorem dX0_hangLetter_48 : decode cX0_hangLetter 48 = .ok (.iload_n 1, 1) := by decide +kernel
theorem dX0_hangLetter_49 : decode cX0_hangLetter 49 = .ok (.putfield 36, 3) := by decide +kernel
theorem dX0_hangLetter_52 : decode cX0_hangLetter 52 = .ok (.return_, 1) := by decide +kernel
set_option maxRecDepth 20000 in
theorem ggX0_addKnown_J13_bitCount_95d88 : GoodIn wsX0_addKnown wsJ13_bitCount_95d88 := goodIn_r _ [6, 7, 8, 9] (by decide +kernel) (by decide +kernel)
set_option maxRecDepth 20000 in
theorem gX0_addKnown_J13_bitCount_95d88 : GoodIn wsX0_addKnown (va_wsS RX0 114 yJ13_bitCount_95d88 wsJ13_bitCount_95d88) := goodIn_app (goodIn_of _ (by decide +kernel)) ggX0_addKnown_J13_bitCount_95d88
theorem dX0_addKnown_0 : decode cX0_addKnown 0 = .ok (.lload_n 2, 1) := by decide +kernel
theorem dX0_addKnown_1 : decode cX0_addKnown 1 = .ok (.aload_n 0, 1) := by decide +kernel
theorem dX0_addKnown_2 : decode cX0_addKnown 2 = .ok (.getfield 33, 3) := by decide +kernel
theorem dX0_addKnown_5 : decode cX0_addKnown 5 = .ok (.iload_n 1, 1) := by decide +kernel
theorem dX0_addKnown_6 : decode cX0_addKnown 6 = .ok (.laload, 1) := by decide +kernel
theorem dX0_addKnown_7 : decode cX0_addKnown 7 = .ok (.ldc2_w 112, 3) := by decide +kernel
theorem dX0_addKnown_10 : decode cX0_addKnown 10 = .ok (.lxor, 1) := by decide +kernel
theorem dX0_addKnown_11 : decode cX0_addKnown 11 = .ok (.land, 1) := by decide +kernel
theorem dX0_addKnown_12 : decode cX0_addKnown 12 = .ok (.invokestatic 114, 3) := by decide +kernel
theorem dX0_addKnown_15 : decode cX0_addKnown 15 = .ok (.istore 4, 2) := by decide +kernel
theorem dX0_addKnown_17 : decode cX0_addKnown 17 = .ok (.aload_n 0, 1) := by decide +kernel
theorem dX0_addKnown_18 : decode cX0_addKnown 18 = .ok (.getfield 33, 3) := by decide +kernel
theorem dX0_addKnown_21 : decode cX0_addKnown 21 = .ok (.iload_n 1, 1) := by decide +kernel
theorem dX0_addKnown_22 : decode cX0_addKnown 22 = .ok (.dup2, 1) := by decide +kernel
theorem dX0_addKnown_23 : decode cX0_addKnown 23 = .ok (.laload, 1) := by decide +kernel
theorem dX0_addKnown_24 : decode cX0_addKnown 24 = .ok (.lload_n 2, 1) := by decide +kernel
theorem dX0_addKnown_25 : decode cX0_addKnown 25 = .ok (.lor, 1) := by decide +kernel
theorem dX0_addKnown_26 : decode cX0_addKnown 26 = .ok (.lastore, 1) := by decide +kernel
theorem dX0_addKnown_27 : decode cX0_addKnown 27 = .ok (.iload 4, 2) := by decide +kernel
theorem dX0_addKnown_29 : decode cX0_addKnown 29 = .ok (.ireturn, 1) := by decide +kernel
theorem dX0_isInsert_0 : decode cX0_isInsert 0 = .ok (.aload_n 0, 1) := by decide +kernel
theorem dX0_isInsert_1 : decode cX0_isInsert 1 = .ok (.getfield 17, 3) := by decide +kernel
theorem dX0_isInsert_4 : decode cX0_isInsert 4 = .ok (.iload_n 1, 1) := by decide +kernel
theorem dX0_isInsert_5 : decode cX0_isInsert 5 = .ok (.iaload, 1) := by decide +kernel
theorem dX0_isInsert_6 : decode cX0_isInsert 6 = .ok (.iconst (-1), 1) := by decide +kernel
theorem dX0_isInsert_7 : decode cX0_isInsert 7 = .ok (.if_icmp .eq 7, 3) := by decide +kernel
theorem dX0_isInsert_10 : decode cX0_isInsert 10 = .ok (.iconst 1, 1) := by decide +kernel
theorem dX0_isInsert_11 : decode cX0_isInsert 11 = .ok (.goto 4, 3) := by decide +kernel
theorem dX0_isInsert_14 : decode cX0_isInsert 14 = .ok (.iconst 0, 1) := by decide +kernel
theorem dX0_isInsert_15 : decode cX0_isInsert 15 = .ok (.ireturn, 1) := by decide +kernel
set_option maxRecDepth 20000 in
theorem ggX0_eventInText_X0_findText : GoodIn wsX0_eventInText wsX0_findText := goodIn_r _ [6, 7, 8, 9, 10, 11, 12, 13, 5, 14, 15, 16, 17, 18, 19, 20, 21, 22, 23, 24, 25, 26, 27, 28, 29, 30, 31, 32, 33, 34, 35, 36, 37, 38, 39, 40, 1, 47, 48, 49, 50, 51, 52, 53, 54, 55, 56, 57, 58, 59, 60] (by decide +kernel) (by decide +kernel)
set_option maxRecDepth 20000 in
theorem gX0_eventInText_X0_findText : GoodIn wsX0_eventInText (wsV RX0 58 RX0 yX0_findText wsX0_findText) := goodIn_app (goodIn_of _ (by decide +kernel)) ggX0_eventInText_X0_findText
set_option maxRecDepth 20000 in
theorem ggX0_eventInText_X0_checkPlace : GoodIn wsX0_eventInText wsX0_checkPlace := goodIn_ca (goodIn_r _ [44, 45, 46] (by decide +kernel) (by decide +kernel)) (goodIn_sub (fun _ h => List.mem_cons_of_mem _ (List.mem_append_right _ h)) (by decide +kernel))
set_option maxRecDepth 20000 in
theorem gX0_eventInText_X0_checkPlace : GoodIn wsX0_eventInText (wsV RX0 62 RX0 yX0_checkPlace wsX0_checkPlace) := goodIn_app (goodIn_of _ (by decide +kernel)) ggX0_eventInText_X0_checkPlace
theorem dX0_eventInText_0 : decode cX0_eventInText 0 = .ok (.aload_n 0, 1) := by decide +kernel
theorem dX0_eventInText_1 : decode cX0_eventInText 1 = .ok (.lload_n 1, 1) := by decide +kernel
theorem dX0_eventInText_2 : decode cX0_eventInText 2 = .ok (.invokevirtual 58, 3) := by decide +kernel
theorem dX0_eventInText_5 : decode cX0_eventInText 5 = .ok (.istore 4, 2) := by decide +kernel
theorem dX0_eventInText_7 : decode cX0_eventInText 7 = .ok (.aload_n 0, 1) := by decide +kernel
theorem dX0_eventInText_8 : decode cX0_eventInText 8 = .ok (.iload_n 3, 1) := by decide +kernel
theorem dX0_eventInText_9 : decode cX0_eventInText 9 = .ok (.iload 4, 2) := by decide +kernel
theorem dX0_eventInText_11 : decode cX0_eventInText 11 = .ok (.invokevirtual 62, 3) := by decide +kernel
theorem dX0_eventInText_14 : decode cX0_eventInText 14 = .ok (.aload_n 0, 1) := by decide +kernel
theorem dX0_eventInText_15 : decode cX0_eventInText 15 = .ok (.getfield 45, 3) := by decide +kernel
theorem dX0_eventInText_18 : decode cX0_eventInText 18 = .ok (.iload_n 3, 1) := by decide +kernel
theorem dX0_eventInText_19 : decode cX0_eventInText 19 = .ok (.iaload, 1) := by decide +kernel
theorem dX0_eventInText_20 : decode cX0_eventInText 20 = .ok (.ireturn, 1) := by decide +kernel
set_option maxRecDepth 20000 in
theorem ggX0_standingIn_X0_has : GoodIn wsX0_standingIn wsX0_has := goodIn_r _ [7, 8, 9, 6, 10] (by decide +kernel) (by decide +kernel)
set_option maxRecDepth 20000 in
theorem gX0_standingIn_X0_has : GoodIn wsX0_standingIn (va_wsS RX0 101 yX0_has wsX0_has) := goodIn_app (goodIn_of _ (by decide +kernel)) ggX0_standingIn_X0_has
set_option maxRecDepth 20000 in
theorem ggX0_standingIn_X0_isInsert : GoodIn wsX0_standingIn wsX0_isInsert := goodIn_r _ [14, 15, 16, 17, 18, 19, 20, 21, 22, 23, 24, 25, 26, 27, 28, 29] (by decide +kernel) (by decide +kernel)
set_option maxRecDepth 20000 in
theorem gX0_standingIn_X0_isInsert : GoodIn wsX0_standingIn (wsV RX0 146 RX0 yX0_isInsert wsX0_isInsert) := goodIn_app (goodIn_of _ (by decide +kernel)) ggX0_standingIn_X0_isInsert
set_option maxRecDepth 20000 in
theorem ggX0_standingIn_X0_only : GoodIn wsX0_standingIn wsX0_only := goodIn_r _ [10] (by decide +kernel) (by decide +kernel)
set_option maxRecDepth 20000 in
theorem gX0_standingIn_X0_only : GoodIn wsX0_standingIn (va_wsS RX0 143 yX0_only wsX0_only) := goodIn_app (goodIn_of _ (by decide +kernel)) ggX0_standingIn_X0_only
theorem dX0_standingIn_0 : decode cX0_standingIn 0 = .ok (.lconst 0, 1) := by decide +kernel
theorem dX0_standingIn_1 : decode cX0_standingIn 1 = .ok (.lstore_n 3, 1) := by decide +kernel
theorem dX0_standingIn_2 : decode cX0_standingIn 2 = .ok (.lconst 0, 1) := by decide +kernel
theorem dX0_standingIn_3 : decode cX0_standingIn 3 = .ok (.lstore 5, 2) := by decide +kernel
theorem dX0_standingIn_5 : decode cX0_standingIn 5 = .ok (.iconst 0, 1) := by decide +kernel
theorem dX0_standingIn_6 : decode cX0_standingIn 6 = .ok (.istore 7, 2) := by decide +kernel
theorem dX0_standingIn_8 : decode cX0_standingIn 8 = .ok (.iload 7, 2) := by decide +kernel
theorem dX0_standingIn_10 : decode cX0_standingIn 10 = .ok (.aload_n 0, 1) := by decide +kernel
theorem dX0_standingIn_11 : decode cX0_standingIn 11 = .ok (.getfield 7, 3) := by decide +kernel
theorem dX0_standingIn_14 : decode cX0_standingIn 14 = .ok (.if_icmp .ge 53, 3) := by decide +kernel
theorem dX0_standingIn_17 : decode cX0_standingIn 17 = .ok (.lload_n 1, 1) := by decide +kernel
theorem dX0_standingIn_18 : decode cX0_standingIn 18 = .ok (.iload 7, 2) := by decide +kernel
theorem dX0_standingIn_20 : decode cX0_standingIn 20 = .ok (.invokestatic 101, 3) := by decide +kernel
theorem dX0_standingIn_23 : decode cX0_standingIn 23 = .ok (.ifCond .eq 38, 3) := by decide +kernel
theorem dX0_standingIn_26 : decode cX0_standingIn 26 = .ok (.aload_n 0, 1) := by decide +kernel
theorem dX0_standingIn_27 : decode cX0_standingIn 27 = .ok (.iload 7, 2) := by decide +kernel
theorem dX0_standingIn_29 : decode cX0_standingIn 29 = .ok (.invokevirtual 146, 3) := by decide +kernel
theorem dX0_standingIn_32 : decode cX0_standingIn 32 = .ok (.ifCond .eq 14, 3) := by decide +kernel
theorem dX0_standingIn_35 : decode cX0_standingIn 35 = .ok (.lload_n 3, 1) := by decide +kernel
theorem dX0_standingIn_36 : decode cX0_standingIn 36 = .ok (.iload 7, 2) := by decide +kernel
theorem dX0_standingIn_38 : decode cX0_standingIn 38 = .ok (.invokestatic 143, 3) := by decide +kernel
theorem dX0_standingIn_41 : decode cX0_standingIn 41 = .ok (.lor, 1) := by decide +kernel
theorem dX0_standingIn_42 : decode cX0_standingIn 42 = .ok (.lstore_n 3, 1) := by decide +kernel
theorem dX0_standingIn_43 : decode cX0_standingIn 43 = .ok (.goto 18, 3) := by decide +kernel
theorem dX0_standingIn_46 : decode cX0_standingIn 46 = .ok (.lload 5, 2) := by decide +kernel
theorem dX0_standingIn_48 : decode cX0_standingIn 48 = .ok (.aload_n 0, 1) := by decide +kernel
theorem dX0_standingIn_49 : decode cX0_standingIn 49 = .ok (.getfield 20, 3) := by decide +kernel
theorem dX0_standingIn_52 : decode cX0_standingIn 52 = .ok (.iload 7, 2) := by decide +kernel
theorem dX0_standingIn_54 : decode cX0_standingIn 54 = .ok (.iaload, 1) := by decide +kernel
theorem dX0_standingIn_55 : decode cX0_standingIn 55 = .ok (.invokestatic 143, 3) := by decide +kernel
theorem dX0_standingIn_58 : decode cX0_standingIn 58 = .ok (.lor, 1) := by decide +kernel
theorem dX0_standingIn_59 : decode cX0_standingIn 59 = .ok (.lstore 5, 2) := by decide +kernel
theorem dX0_standingIn_61 : decode cX0_standingIn 61 = .ok (.iinc 7 1, 3) := by decide +kernel
theorem dX0_standingIn_64 : decode cX0_standingIn 64 = .ok (.goto (-56), 3) := by decide +kernel
theorem dX0_standingIn_67 : decode cX0_standingIn 67 = .ok (.lload_n 3, 1) := by decide +kernel
theorem dX0_standingIn_68 : decode cX0_standingIn 68 = .ok (.lload 5, 2) := by decide +kernel
theorem dX0_standingIn_70 : decode cX0_standingIn 70 = .ok (.ldc2_w 112, 3) := by decide +kernel
theorem dX0_standingIn_73 : decode cX0_standingIn 73 = .ok (.lxor, 1) := by decide +kernel
theorem dX0_standingIn_74 : decode cX0_standingIn 74 = .ok (.land, 1) := by decide +kernel
theorem dX0_standingIn_75 : decode cX0_standingIn 75 = .ok (.lreturn, 1) := by decide +kernel
set_option maxRecDepth 20000 in
theorem ggX0_findText_X0_standingIn : GoodIn wsX0_findText wsX0_standingIn := goodIn_r _ [9, 10, 11, 12, 13, 14, 8, 15, 16, 17, 18, 19, 20, 21, 22, 23, 37, 38, 39, 40, 41, 42, 43, 44, 45, 46, 47, 48, 49, 50] (by decide +kernel) (by decide +kernel)
set_option maxRecDepth 20000 in
theorem gX0_findText_X0_standingIn : GoodIn wsX0_findText (wsV RX0 153 RX0 yX0_standingIn wsX0_standingIn) := goodIn_app (goodIn_of _ (by decide +kernel)) ggX0_findText_X0_standingIn
set_option maxRecDepth 20000 in
theorem ggX0_findText_X0_putWaiting : GoodIn wsX0_findText wsX0_putWaiting := goodIn_r _ [27, 2, 28, 29, 30, 8, 31, 10, 37, 38, 39, 40, 41, 42, 43, 44, 45, 46, 47, 48, 49, 50] (by decide +kernel) (by decide +kernel)
set_option maxRecDepth 20000 in
theorem gX0_findText_X0_putWaiting : GoodIn wsX0_findText (wsV RX0 156 RX0 yX0_putWaiting wsX0_putWaiting) := goodIn_app (goodIn_of _ (by decide +kernel)) ggX0_findText_X0_putWaiting
set_option maxRecDepth 20000 in
theorem ggX0_findText_X0_putText : GoodIn wsX0_findText wsX0_putText := goodIn_r _ [35, 36, 13, 14, 8, 15, 16, 17, 18, 37, 38, 39, 40, 41, 42, 43, 44, 45, 46, 47, 48, 49, 50] (by decide +kernel) (by decide +kernel)
set_option maxRecDepth 20000 in
theorem gX0_findText_X0_putText : GoodIn wsX0_findText (wsV RX0 160 RX0 yX0_putText wsX0_putText) := goodIn_app (goodIn_of _ (by decide +kernel)) ggX0_findText_X0_putText
theorem dX0_findText_0 : decode cX0_findText 0 = .ok (.aload_n 0, 1) := by decide +kernel
theorem dX0_findText_1 : decode cX0_findText 1 = .ok (.lload_n 1, 1) := by decide +kernel
theorem dX0_findText_2 : decode cX0_findText 2 = .ok (.invokevirtual 153, 3) := by decide +kernel
theorem dX0_findText_5 : decode cX0_findText 5 = .ok (.lstore_n 3, 1) := by decide +kernel
theorem dX0_findText_6 : decode cX0_findText 6 = .ok (.iconst 0, 1) := by decide +kernel
theorem dX0_findText_7 : decode cX0_findText 7 = .ok (.istore 5, 2) := by decide +kernel
theorem dX0_findText_9 : decode cX0_findText 9 = .ok (.aload_n 0, 1) := by decide +kernel
theorem dX0_findText_10 : decode cX0_findText 10 = .ok (.aload_n 0, 1) := by decide +kernel
theorem dX0_findText_11 : decode cX0_findText 11 = .ok (.getfield 36, 3) := by decide +kernel
theorem dX0_findText_14 : decode cX0_findText 14 = .ok (.iconst 0, 1) := by decide +kernel
theorem dX0_findText_15 : decode cX0_findText 15 = .ok (.invokevirtual 156, 3) := by decide +kernel
theorem dX0_findText_18 : decode cX0_findText 18 = .ok (.istore 6, 2) := by decide +kernel
theorem dX0_findText_20 : decode cX0_findText 20 = .ok (.iconst 0, 1) := by decide +kernel
theorem dX0_findText_21 : decode cX0_findText 21 = .ok (.istore 7, 2) := by decide +kernel
theorem dX0_findText_23 : decode cX0_findText 23 = .ok (.iload 7, 2) := by decide +kernel
theorem dX0_findText_25 : decode cX0_findText 25 = .ok (.bipush 60, 2) := by decide +kernel
theorem dX0_findText_27 : decode cX0_findText 27 = .ok (.if_icmp .ge 67, 3) := by decide +kernel
theorem dX0_findText_30 : decode cX0_findText 30 = .ok (.iload 6, 2) := by decide +kernel
theorem dX0_findText_32 : decode cX0_findText 32 = .ok (.ifCond .le 62, 3) := by decide +kernel
theorem dX0_findText_35 : decode cX0_findText 35 = .ok (.iinc 6 (-1), 3) := by decide +kernel
theorem dX0_findText_38 : decode cX0_findText 38 = .ok (.aload_n 0, 1) := by decide +kernel
theorem dX0_findText_39 : decode cX0_findText 39 = .ok (.getfield 48, 3) := by decide +kernel
theorem dX0_findText_42 : decode cX0_findText 42 = .ok (.iload 6, 2) := by decide +kernel
theorem dX0_findText_44 : decode cX0_findText 44 = .ok (.iaload, 1) := by decide +kernel
theorem dX0_findText_45 : decode cX0_findText 45 = .ok (.istore 8, 2) := by decide +kernel
theorem dX0_findText_47 : decode cX0_findText 47 = .ok (.aload_n 0, 1) := by decide +kernel
theorem dX0_findText_48 : decode cX0_findText 48 = .ok (.lload_n 3, 1) := by decide +kernel
theorem dX0_findText_49 : decode cX0_findText 49 = .ok (.iload 8, 2) := by decide +kernel
theorem dX0_findText_51 : decode cX0_findText 51 = .ok (.iload 5, 2) := by decide +kernel
theorem dX0_findText_53 : decode cX0_findText 53 = .ok (.invokevirtual 160, 3) := by decide +kernel
theorem dX0_findText_56 : decode cX0_findText 56 = .ok (.istore 5, 2) := by decide +kernel
theorem dX0_findText_58 : decode cX0_findText 58 = .ok (.aload_n 0, 1) := by decide +kernel
theorem dX0_findText_59 : decode cX0_findText 59 = .ok (.aload_n 0, 1) := by decide +kernel
theorem dX0_findText_60 : decode cX0_findText 60 = .ok (.getfield 42, 3) := by decide +kernel
theorem dX0_findText_63 : decode cX0_findText 63 = .ok (.iload 8, 2) := by decide +kernel
theorem dX0_findText_65 : decode cX0_findText 65 = .ok (.iaload, 1) := by decide +kernel
theorem dX0_findText_66 : decode cX0_findText 66 = .ok (.iload 6, 2) := by decide +kernel
theorem dX0_findText_68 : decode cX0_findText 68 = .ok (.invokevirtual 156, 3) := by decide +kernel
theorem dX0_findText_71 : decode cX0_findText 71 = .ok (.istore 6, 2) := by decide +kernel
theorem dX0_findText_73 : decode cX0_findText 73 = .ok (.aload_n 0, 1) := by decide +kernel
theorem dX0_findText_74 : decode cX0_findText 74 = .ok (.aload_n 0, 1) := by decide +kernel
theorem dX0_findText_75 : decode cX0_findText 75 = .ok (.getfield 39, 3) := by decide +kernel
theorem dX0_findText_78 : decode cX0_findText 78 = .ok (.iload 8, 2) := by decide +kernel
theorem dX0_findText_80 : decode cX0_findText 80 = .ok (.iaload, 1) := by decide +kernel
theorem dX0_findText_81 : decode cX0_findText 81 = .ok (.iload 6, 2) := by decide +kernel
theorem dX0_findText_83 : decode cX0_findText 83 = .ok (.invokevirtual 156, 3) := by decide +kernel
theorem dX0_findText_86 : decode cX0_findText 86 = .ok (.istore 6, 2) := by decide +kernel
theorem dX0_findText_88 : decode cX0_findText 88 = .ok (.iinc 7 1, 3) := by decide +kernel
theorem dX0_findText_91 : decode cX0_findText 91 = .ok (.goto (-68), 3) := by decide +kernel
theorem dX0_findText_94 : decode cX0_findText 94 = .ok (.iload 5, 2) := by decide +kernel
theorem dX0_findText_96 : decode cX0_findText 96 = .ok (.ireturn, 1) := by decide +kernel
set_option maxRecDepth 20000 in
theorem ggX0_putWaiting_X0_isEvent : GoodIn wsX0_putWaiting wsX0_isEvent := goodIn_r _ [6, 7, 8, 9, 10, 11, 12, 13, 14, 15, 16, 17, 18, 19, 20, 21] (by decide +kernel) (by decide +kernel)
set_option maxRecDepth 20000 in
theorem gX0_putWaiting_X0_isEvent : GoodIn wsX0_putWaiting (wsV RX0 131 RX0 yX0_isEvent wsX0_isEvent) := goodIn_app (goodIn_of _ (by decide +kernel)) ggX0_putWaiting_X0_isEvent
theorem dX0_putWaiting_0 : decode cX0_putWaiting 0 = .ok (.aload_n 0, 1) := by decide +kernel
theorem dX0_putWaiting_1 : decode cX0_putWaiting 1 = .ok (.iload_n 1, 1) := by decide +kernel
theorem dX0_putWaiting_2 : decode cX0_putWaiting 2 = .ok (.invokevirtual 131, 3) := by decide +kernel
theorem dX0_putWaiting_5 : decode cX0_putWaiting 5 = .ok (.ifCond .eq 9, 3) := by decide +kernel
theorem dX0_putWaiting_8 : decode cX0_putWaiting 8 = .ok (.iload_n 2, 1) := by decide +kernel
theorem dX0_putWaiting_9 : decode cX0_putWaiting 9 = .ok (.bipush 60, 2) := by decide +kernel
theorem dX0_putWaiting_11 : decode cX0_putWaiting 11 = .ok (.if_icmp .lt 5, 3) := by decide +kernel
theorem dX0_putWaiting_14 : decode cX0_putWaiting 14 = .ok (.iload_n 2, 1) := by decide +kernel
theorem dX0_putWaiting_15 : decode cX0_putWaiting 15 = .ok (.ireturn, 1) := by decide +kernel
theorem dX0_putWaiting_16 : decode cX0_putWaiting 16 = .ok (.aload_n 0, 1) := by decide +kernel
theorem dX0_putWaiting_17 : decode cX0_putWaiting 17 = .ok (.getfield 48, 3) := by decide +kernel
theorem dX0_putWaiting_20 : decode cX0_putWaiting 20 = .ok (.iload_n 2, 1) := by decide +kernel
theorem dX0_putWaiting_21 : decode cX0_putWaiting 21 = .ok (.iload_n 1, 1) := by decide +kernel
theorem dX0_putWaiting_22 : decode cX0_putWaiting 22 = .ok (.iastore, 1) := by decide +kernel
theorem dX0_putWaiting_23 : decode cX0_putWaiting 23 = .ok (.iload_n 2, 1) := by decide +kernel
theorem dX0_putWaiting_24 : decode cX0_putWaiting 24 = .ok (.iconst 1, 1) := by decide +kernel
theorem dX0_putWaiting_25 : decode cX0_putWaiting 25 = .ok (.iadd, 1) := by decide +kernel
theorem dX0_putWaiting_26 : decode cX0_putWaiting 26 = .ok (.ireturn, 1) := by decide +kernel
set_option maxRecDepth 20000 in
theorem ggX0_putText_X0_has : GoodIn wsX0_putText wsX0_has := goodIn_r _ [5, 6, 7, 4, 8] (by decide +kernel) (by decide +kernel)
set_option maxRecDepth 20000 in
theorem gX0_putText_X0_has : GoodIn wsX0_putText (va_wsS RX0 101 yX0_has wsX0_has) := goodIn_app (goodIn_of _ (by decide +kernel)) ggX0_putText_X0_has
theorem dX0_putText_0 : decode cX0_putText 0 = .ok (.lload_n 1, 1) := by decide +kernel
theorem dX0_putText_1 : decode cX0_putText 1 = .ok (.iload_n 3, 1) := by decide +kernel
theorem dX0_putText_2 : decode cX0_putText 2 = .ok (.invokestatic 101, 3) := by decide +kernel
theorem dX0_putText_5 : decode cX0_putText 5 = .ok (.ifCond .eq 10, 3) := by decide +kernel
theorem dX0_putText_8 : decode cX0_putText 8 = .ok (.iload 4, 2) := by decide +kernel
theorem dX0_putText_10 : decode cX0_putText 10 = .ok (.bipush 60, 2) := by decide +kernel
theorem dX0_putText_12 : decode cX0_putText 12 = .ok (.if_icmp .lt 6, 3) := by decide +kernel
theorem dX0_putText_15 : decode cX0_putText 15 = .ok (.iload 4, 2) := by decide +kernel
theorem dX0_putText_17 : decode cX0_putText 17 = .ok (.ireturn, 1) := by decide +kernel
theorem dX0_putText_18 : decode cX0_putText 18 = .ok (.aload_n 0, 1) := by decide +kernel
theorem dX0_putText_19 : decode cX0_putText 19 = .ok (.getfield 45, 3) := by decide +kernel
theorem dX0_putText_22 : decode cX0_putText 22 = .ok (.iload 4, 2) := by decide +kernel
theorem dX0_putText_24 : decode cX0_putText 24 = .ok (.iload_n 3, 1) := by decide +kernel
theorem dX0_putText_25 : decode cX0_putText 25 = .ok (.iastore, 1) := by decide +kernel
theorem dX0_putText_26 : decode cX0_putText 26 = .ok (.iload 4, 2) := by decide +kernel
theorem dX0_putText_28 : decode cX0_putText 28 = .ok (.iconst 1, 1) := by decide +kernel
theorem dX0_putText_29 : decode cX0_putText 29 = .ok (.iadd, 1) := by decide +kernel
theorem dX0_putText_30 : decode cX0_putText 30 = .ok (.ireturn, 1) := by decide +kernel
set_option maxRecDepth 20000 in
theorem ggX0_findTextByList_X0_standingIn : GoodIn wsX0_findTextByList wsX0_standingIn := goodIn_r _ [6, 7, 8, 9, 10, 11, 5, 12, 13, 14, 15, 16, 17, 18, 19, 20, 34, 35, 36, 37, 38, 39, 40, 41, 42, 43, 44, 45, 46, 47] (by decide +kernel) (by decide +kernel)
set_option maxRecDepth 20000 in
theorem gX0_findTextByList_X0_standingIn : GoodIn wsX0_findTextByList (wsV RX0 153 RX0 yX0_standingIn wsX0_standingIn) := goodIn_app (goodIn_of _ (by decide +kernel)) ggX0_findTextByList_X0_standingIn
set_option maxRecDepth 20000 in
theorem ggX0_findTextByList_X0_layList : GoodIn wsX0_findTextByList wsX0_layList := goodIn_r _ [24, 7, 8, 1, 10, 11, 5, 12, 13, 14, 15, 16, 17, 18, 19, 20, 25, 26, 27, 28, 34, 35, 36, 37, 38, 39, 40, 41, 42, 43, 44, 45, 46, 47] (by decide +kernel) (by decide +kernel)
set_option maxRecDepth 20000 in
theorem gX0_findTextByList_X0_layList : GoodIn wsX0_findTextByList (wsV RX0 164 RX0 yX0_layList wsX0_layList) := goodIn_app (goodIn_of _ (by decide +kernel)) ggX0_findTextByList_X0_layList
set_option maxRecDepth 20000 in
theorem ggX0_findTextByList_X0_isEvent : GoodIn wsX0_findTextByList wsX0_isEvent := goodIn_r _ [28, 7, 34, 35, 36, 37, 38, 39, 40, 41, 42, 43, 44, 45, 46, 47] (by decide +kernel) (by decide +kernel)
set_option maxRecDepth 20000 in
theorem gX0_findTextByList_X0_isEvent : GoodIn wsX0_findTextByList (wsV RX0 131 RX0 yX0_isEvent wsX0_isEvent) := goodIn_app (goodIn_of _ (by decide +kernel)) ggX0_findTextByList_X0_isEvent
set_option maxRecDepth 20000 in
theorem ggX0_findTextByList_X0_putText : GoodIn wsX0_findTextByList wsX0_putText := goodIn_r _ [32, 33, 10, 11, 5, 12, 13, 14, 15, 34, 35, 36, 37, 38, 39, 40, 41, 42, 43, 44, 45, 46, 47] (by decide +kernel) (by decide +kernel)
set_option maxRecDepth 20000 in
theorem gX0_findTextByList_X0_putText : GoodIn wsX0_findTextByList (wsV RX0 160 RX0 yX0_putText wsX0_putText) := goodIn_app (goodIn_of _ (by decide +kernel)) ggX0_findTextByList_X0_putText
theorem dX0_findTextByList_0 : decode cX0_findTextByList 0 = .ok (.aload_n 0, 1) := by decide +kernel
theorem dX0_findTextByList_1 : decode cX0_findTextByList 1 = .ok (.lload_n 1, 1) := by decide +kernel
theorem dX0_findTextByList_2 : decode cX0_findTextByList 2 = .ok (.invokevirtual 153, 3) := by decide +kernel
theorem dX0_findTextByList_5 : decode cX0_findTextByList 5 = .ok (.lstore_n 3, 1) := by decide +kernel
theorem dX0_findTextByList_6 : decode cX0_findTextByList 6 = .ok (.iconst 0, 1) := by decide +kernel
theorem dX0_findTextByList_7 : decode cX0_findTextByList 7 = .ok (.istore 5, 2) := by decide +kernel
theorem dX0_findTextByList_9 : decode cX0_findTextByList 9 = .ok (.aload_n 0, 1) := by decide +kernel
theorem dX0_findTextByList_10 : decode cX0_findTextByList 10 = .ok (.lload_n 1, 1) := by decide +kernel
theorem dX0_findTextByList_11 : decode cX0_findTextByList 11 = .ok (.invokevirtual 164, 3) := by decide +kernel
theorem dX0_findTextByList_14 : decode cX0_findTextByList 14 = .ok (.istore 6, 2) := by decide +kernel
theorem dX0_findTextByList_16 : decode cX0_findTextByList 16 = .ok (.iconst 0, 1) := by decide +kernel
theorem dX0_findTextByList_17 : decode cX0_findTextByList 17 = .ok (.istore 7, 2) := by decide +kernel
theorem dX0_findTextByList_19 : decode cX0_findTextByList 19 = .ok (.iload 7, 2) := by decide +kernel
theorem dX0_findTextByList_21 : decode cX0_findTextByList 21 = .ok (.bipush 60, 2) := by decide +kernel
theorem dX0_findTextByList_23 : decode cX0_findTextByList 23 = .ok (.if_icmp .ge 38, 3) := by decide +kernel
theorem dX0_findTextByList_26 : decode cX0_findTextByList 26 = .ok (.aload_n 0, 1) := by decide +kernel
theorem dX0_findTextByList_27 : decode cX0_findTextByList 27 = .ok (.iload 6, 2) := by decide +kernel
theorem dX0_findTextByList_29 : decode cX0_findTextByList 29 = .ok (.invokevirtual 131, 3) := by decide +kernel
theorem dX0_findTextByList_32 : decode cX0_findTextByList 32 = .ok (.ifCond .eq 29, 3) := by decide +kernel
theorem dX0_findTextByList_35 : decode cX0_findTextByList 35 = .ok (.aload_n 0, 1) := by decide +kernel
theorem dX0_findTextByList_36 : decode cX0_findTextByList 36 = .ok (.lload_n 3, 1) := by decide +kernel
theorem dX0_findTextByList_37 : decode cX0_findTextByList 37 = .ok (.iload 6, 2) := by decide +kernel
theorem dX0_findTextByList_39 : decode cX0_findTextByList 39 = .ok (.iload 5, 2) := by decide +kernel
theorem dX0_findTextByList_41 : decode cX0_findTextByList 41 = .ok (.invokevirtual 160, 3) := by decide +kernel
theorem dX0_findTextByList_44 : decode cX0_findTextByList 44 = .ok (.istore 5, 2) := by decide +kernel
theorem dX0_findTextByList_46 : decode cX0_findTextByList 46 = .ok (.aload_n 0, 1) := by decide +kernel
theorem dX0_findTextByList_47 : decode cX0_findTextByList 47 = .ok (.getfield 51, 3) := by decide +kernel
theorem dX0_findTextByList_50 : decode cX0_findTextByList 50 = .ok (.iload 6, 2) := by decide +kernel
theorem dX0_findTextByList_52 : decode cX0_findTextByList 52 = .ok (.iaload, 1) := by decide +kernel
theorem dX0_findTextByList_53 : decode cX0_findTextByList 53 = .ok (.istore 6, 2) := by decide +kernel
theorem dX0_findTextByList_55 : decode cX0_findTextByList 55 = .ok (.iinc 7 1, 3) := by decide +kernel
theorem dX0_findTextByList_58 : decode cX0_findTextByList 58 = .ok (.goto (-39), 3) := by decide +kernel
theorem dX0_findTextByList_61 : decode cX0_findTextByList 61 = .ok (.iload 5, 2) := by decide +kernel
theorem dX0_findTextByList_63 : decode cX0_findTextByList 63 = .ok (.ireturn, 1) := by decide +kernel
set_option maxRecDepth 20000 in
theorem ggX0_layList_X0_has : GoodIn wsX0_layList wsX0_has := goodIn_r _ [7, 8, 9, 6, 10] (by decide +kernel) (by decide +kernel)
set_option maxRecDepth 20000 in
theorem gX0_layList_X0_has : GoodIn wsX0_layList (va_wsS RX0 101 yX0_has wsX0_has) := goodIn_app (goodIn_of _ (by decide +kernel)) ggX0_layList_X0_has
set_option maxRecDepth 20000 in
theorem ggX0_layList_X0_isInsert : GoodIn wsX0_layList wsX0_isInsert := goodIn_r _ [14, 15, 20, 21, 22, 23, 24, 25, 26, 27, 28, 29, 30, 31, 32, 33] (by decide +kernel) (by decide +kernel)
set_option maxRecDepth 20000 in
theorem gX0_layList_X0_isInsert : GoodIn wsX0_layList (wsV RX0 146 RX0 yX0_isInsert wsX0_isInsert) := goodIn_app (goodIn_of _ (by decide +kernel)) ggX0_layList_X0_isInsert
set_option maxRecDepth 20000 in
theorem ggX0_layList_X0_isEvent : GoodIn wsX0_layList wsX0_isEvent := goodIn_r _ [19, 1, 20, 21, 22, 23, 24, 25, 26, 27, 28, 29, 30, 31, 32, 33] (by decide +kernel) (by decide +kernel)
set_option maxRecDepth 20000 in
theorem gX0_layList_X0_isEvent : GoodIn wsX0_layList (wsV RX0 131 RX0 yX0_isEvent wsX0_isEvent) := goodIn_app (goodIn_of _ (by decide +kernel)) ggX0_layList_X0_isEvent
theorem dX0_layList_0 : decode cX0_layList 0 = .ok (.iconst (-1), 1) := by decide +kernel
theorem dX0_layList_1 : decode cX0_layList 1 = .ok (.istore_n 3, 1) := by decide +kernel
theorem dX0_layList_2 : decode cX0_layList 2 = .ok (.iconst 0, 1) := by decide +kernel
theorem dX0_layList_3 : decode cX0_layList 3 = .ok (.istore 4, 2) := by decide +kernel
theorem dX0_layList_5 : decode cX0_layList 5 = .ok (.iload 4, 2) := by decide +kernel
theorem dX0_layList_7 : decode cX0_layList 7 = .ok (.aload_n 0, 1) := by decide +kernel
theorem dX0_layList_8 : decode cX0_layList 8 = .ok (.getfield 7, 3) := by decide +kernel
theorem dX0_layList_11 : decode cX0_layList 11 = .ok (.if_icmp .ge 82, 3) := by decide +kernel
theorem dX0_layList_14 : decode cX0_layList 14 = .ok (.lload_n 1, 1) := by decide +kernel
theorem dX0_layList_15 : decode cX0_layList 15 = .ok (.iload 4, 2) := by decide +kernel
theorem dX0_layList_17 : decode cX0_layList 17 = .ok (.invokestatic 101, 3) := by decide +kernel
theorem dX0_layList_20 : decode cX0_layList 20 = .ok (.ifCond .eq 67, 3) := by decide +kernel
theorem dX0_layList_23 : decode cX0_layList 23 = .ok (.aload_n 0, 1) := by decide +kernel
theorem dX0_layList_24 : decode cX0_layList 24 = .ok (.iload 4, 2) := by decide +kernel
theorem dX0_layList_26 : decode cX0_layList 26 = .ok (.invokevirtual 146, 3) := by decide +kernel
theorem dX0_layList_29 : decode cX0_layList 29 = .ok (.ifCond .eq 58, 3) := by decide +kernel
theorem dX0_layList_32 : decode cX0_layList 32 = .ok (.aload_n 0, 1) := by decide +kernel
theorem dX0_layList_33 : decode cX0_layList 33 = .ok (.getfield 20, 3) := by decide +kernel
theorem dX0_layList_36 : decode cX0_layList 36 = .ok (.iload 4, 2) := by decide +kernel
theorem dX0_layList_38 : decode cX0_layList 38 = .ok (.iaload, 1) := by decide +kernel
theorem dX0_layList_39 : decode cX0_layList 39 = .ok (.istore 5, 2) := by decide +kernel
theorem dX0_layList_41 : decode cX0_layList 41 = .ok (.aload_n 0, 1) := by decide +kernel
theorem dX0_layList_42 : decode cX0_layList 42 = .ok (.iload 5, 2) := by decide +kernel
theorem dX0_layList_44 : decode cX0_layList 44 = .ok (.invokevirtual 131, 3) := by decide +kernel
theorem dX0_layList_47 : decode cX0_layList 47 = .ok (.ifCond .eq 29, 3) := by decide +kernel
theorem dX0_layList_50 : decode cX0_layList 50 = .ok (.aload_n 0, 1) := by decide +kernel
theorem dX0_layList_51 : decode cX0_layList 51 = .ok (.getfield 51, 3) := by decide +kernel
theorem dX0_layList_54 : decode cX0_layList 54 = .ok (.iload 4, 2) := by decide +kernel
theorem dX0_layList_56 : decode cX0_layList 56 = .ok (.aload_n 0, 1) := by decide +kernel
theorem dX0_layList_57 : decode cX0_layList 57 = .ok (.getfield 51, 3) := by decide +kernel
theorem dX0_layList_60 : decode cX0_layList 60 = .ok (.iload 5, 2) := by decide +kernel
theorem dX0_layList_62 : decode cX0_layList 62 = .ok (.iaload, 1) := by decide +kernel
theorem dX0_layList_63 : decode cX0_layList 63 = .ok (.iastore, 1) := by decide +kernel
theorem dX0_layList_64 : decode cX0_layList 64 = .ok (.aload_n 0, 1) := by decide +kernel
theorem dX0_layList_65 : decode cX0_layList 65 = .ok (.getfield 51, 3) := by decide +kernel
theorem dX0_layList_68 : decode cX0_layList 68 = .ok (.iload 5, 2) := by decide +kernel
theorem dX0_layList_70 : decode cX0_layList 70 = .ok (.iload 4, 2) := by decide +kernel
theorem dX0_layList_72 : decode cX0_layList 72 = .ok (.iastore, 1) := by decide +kernel
theorem dX0_layList_73 : decode cX0_layList 73 = .ok (.goto 14, 3) := by decide +kernel
theorem dX0_layList_76 : decode cX0_layList 76 = .ok (.aload_n 0, 1) := by decide +kernel
theorem dX0_layList_77 : decode cX0_layList 77 = .ok (.getfield 51, 3) := by decide +kernel
theorem dX0_layList_80 : decode cX0_layList 80 = .ok (.iload 4, 2) := by decide +kernel
theorem dX0_layList_82 : decode cX0_layList 82 = .ok (.iload_n 3, 1) := by decide +kernel
theorem dX0_layList_83 : decode cX0_layList 83 = .ok (.iastore, 1) := by decide +kernel
theorem dX0_layList_84 : decode cX0_layList 84 = .ok (.iload 4, 2) := by decide +kernel
theorem dX0_layList_86 : decode cX0_layList 86 = .ok (.istore_n 3, 1) := by decide +kernel
theorem dX0_layList_87 : decode cX0_layList 87 = .ok (.iinc 4 1, 3) := by decide +kernel
theorem dX0_layList_90 : decode cX0_layList 90 = .ok (.goto (-85), 3) := by decide +kernel
theorem dX0_layList_93 : decode cX0_layList 93 = .ok (.iload_n 3, 1) := by decide +kernel
theorem dX0_layList_94 : decode cX0_layList 94 = .ok (.ireturn, 1) := by decide +kernel
end
section
theorem dJ13_bitCount_95d88_0 : decode cJ13_bitCount_95d88 0 = .ok (.lload_n 0, 1) := by decide +kernel
theorem dJ13_bitCount_95d88_1 : decode cJ13_bitCount_95d88 1 = .ok (.lload_n 0, 1) := by decide +kernel
theorem dJ13_bitCount_95d88_2 : decode cJ13_bitCount_95d88 2 = .ok (.iconst 1, 1) := by decide +kernel
theorem dJ13_bitCount_95d88_3 : decode cJ13_bitCount_95d88 3 = .ok (.lushr, 1) := by decide +kernel
theorem dJ13_bitCount_95d88_4 : decode cJ13_bitCount_95d88 4 = .ok (.ldc2_w 314, 3) := by decide +kernel
theorem dJ13_bitCount_95d88_7 : decode cJ13_bitCount_95d88 7 = .ok (.land, 1) := by decide +kernel
theorem dJ13_bitCount_95d88_8 : decode cJ13_bitCount_95d88 8 = .ok (.lsub, 1) := by decide +kernel
theorem dJ13_bitCount_95d88_9 : decode cJ13_bitCount_95d88 9 = .ok (.lstore_n 0, 1) := by decide +kernel
theorem dJ13_bitCount_95d88_10 : decode cJ13_bitCount_95d88 10 = .ok (.lload_n 0, 1) := by decide +kernel
theorem dJ13_bitCount_95d88_11 : decode cJ13_bitCount_95d88 11 = .ok (.ldc2_w 316, 3) := by decide +kernel
theorem dJ13_bitCount_95d88_14 : decode cJ13_bitCount_95d88 14 = .ok (.land, 1) := by decide +kernel
theorem dJ13_bitCount_95d88_15 : decode cJ13_bitCount_95d88 15 = .ok (.lload_n 0, 1) := by decide +kernel
theorem dJ13_bitCount_95d88_16 : decode cJ13_bitCount_95d88 16 = .ok (.iconst 2, 1) := by decide +kernel
theorem dJ13_bitCount_95d88_17 : decode cJ13_bitCount_95d88 17 = .ok (.lushr, 1) := by decide +kernel
theorem dJ13_bitCount_95d88_18 : decode cJ13_bitCount_95d88 18 = .ok (.ldc2_w 316, 3) := by decide +kernel
theorem dJ13_bitCount_95d88_21 : decode cJ13_bitCount_95d88 21 = .ok (.land, 1) := by decide +kernel
theorem dJ13_bitCount_95d88_22 : decode cJ13_bitCount_95d88 22 = .ok (.ladd, 1) := by decide +kernel
theorem dJ13_bitCount_95d88_23 : decode cJ13_bitCount_95d88 23 = .ok (.lstore_n 0, 1) := by decide +kernel
theorem dJ13_bitCount_95d88_24 : decode cJ13_bitCount_95d88 24 = .ok (.lload_n 0, 1) := by decide +kernel
theorem dJ13_bitCount_95d88_25 : decode cJ13_bitCount_95d88 25 = .ok (.lload_n 0, 1) := by decide +kernel
theorem dJ13_bitCount_95d88_26 : decode cJ13_bitCount_95d88 26 = .ok (.iconst 4, 1) := by decide +kernel
theorem dJ13_bitCount_95d88_27 : decode cJ13_bitCount_95d88 27 = .ok (.lushr, 1) := by decide +kernel
theorem dJ13_bitCount_95d88_28 : decode cJ13_bitCount_95d88 28 = .ok (.ladd, 1) := by decide +kernel
theorem dJ13_bitCount_95d88_29 : decode cJ13_bitCount_95d88 29 = .ok (.ldc2_w 318, 3) := by decide +kernel
theorem dJ13_bitCount_95d88_32 : decode cJ13_bitCount_95d88 32 = .ok (.land, 1) := by decide +kernel
theorem dJ13_bitCount_95d88_33 : decode cJ13_bitCount_95d88 33 = .ok (.lstore_n 0, 1) := by decide +kernel
theorem dJ13_bitCount_95d88_34 : decode cJ13_bitCount_95d88 34 = .ok (.lload_n 0, 1) := by decide +kernel
theorem dJ13_bitCount_95d88_35 : decode cJ13_bitCount_95d88 35 = .ok (.lload_n 0, 1) := by decide +kernel
theorem dJ13_bitCount_95d88_36 : decode cJ13_bitCount_95d88 36 = .ok (.bipush 8, 2) := by decide +kernel
theorem dJ13_bitCount_95d88_38 : decode cJ13_bitCount_95d88 38 = .ok (.lushr, 1) := by decide +kernel
theorem dJ13_bitCount_95d88_39 : decode cJ13_bitCount_95d88 39 = .ok (.ladd, 1) := by decide +kernel
theorem dJ13_bitCount_95d88_40 : decode cJ13_bitCount_95d88 40 = .ok (.lstore_n 0, 1) := by decide +kernel
theorem dJ13_bitCount_95d88_41 : decode cJ13_bitCount_95d88 41 = .ok (.lload_n 0, 1) := by decide +kernel
theorem dJ13_bitCount_95d88_42 : decode cJ13_bitCount_95d88 42 = .ok (.lload_n 0, 1) := by decide +kernel
theorem dJ13_bitCount_95d88_43 : decode cJ13_bitCount_95d88 43 = .ok (.bipush 16, 2) := by decide +kernel
theorem dJ13_bitCount_95d88_45 : decode cJ13_bitCount_95d88 45 = .ok (.lushr, 1) := by decide +kernel
theorem dJ13_bitCount_95d88_46 : decode cJ13_bitCount_95d88 46 = .ok (.ladd, 1) := by decide +kernel
theorem dJ13_bitCount_95d88_47 : decode cJ13_bitCount_95d88 47 = .ok (.lstore_n 0, 1) := by decide +kernel
theorem dJ13_bitCount_95d88_48 : decode cJ13_bitCount_95d88 48 = .ok (.lload_n 0, 1) := by decide +kernel
theorem dJ13_bitCount_95d88_49 : decode cJ13_bitCount_95d88 49 = .ok (.lload_n 0, 1) := by decide +kernel
theorem dJ13_bitCount_95d88_50 : decode cJ13_bitCount_95d88 50 = .ok (.bipush 32, 2) := by decide +kernel
theorem dJ13_bitCount_95d88_52 : decode cJ13_bitCount_95d88 52 = .ok (.lushr, 1) := by decide +kernel
theorem dJ13_bitCount_95d88_53 : decode cJ13_bitCount_95d88 53 = .ok (.ladd, 1) := by decide +kernel
theorem dJ13_bitCount_95d88_54 : decode cJ13_bitCount_95d88 54 = .ok (.lstore_n 0, 1) := by decide +kernel
theorem dJ13_bitCount_95d88_55 : decode cJ13_bitCount_95d88 55 = .ok (.lload_n 0, 1) := by decide +kernel
theorem dJ13_bitCount_95d88_56 : decode cJ13_bitCount_95d88 56 = .ok (.l2i, 1) := by decide +kernel
theorem dJ13_bitCount_95d88_57 : decode cJ13_bitCount_95d88 57 = .ok (.bipush 127, 2) := by decide +kernel
theorem dJ13_bitCount_95d88_59 : decode cJ13_bitCount_95d88 59 = .ok (.iand, 1) := by decide +kernel
theorem dJ13_bitCount_95d88_60 : decode cJ13_bitCount_95d88 60 = .ok (.ireturn, 1) := by decide +kernel
theorem dL_drawn_0 : decode cL_drawn 0 = .ok (.iload_n 1, 1) := by decide +kernel
theorem dL_drawn_1 : decode cL_drawn 1 = .ok (.aload_n 0, 1) := by decide +kernel
theorem dL_drawn_2 : decode cL_drawn 2 = .ok (.arraylength, 1) := by decide +kernel
theorem dL_drawn_3 : decode cL_drawn 3 = .ok (.if_icmp .ge 9, 3) := by decide +kernel
theorem dL_drawn_6 : decode cL_drawn 6 = .ok (.aload_n 0, 1) := by decide +kernel
theorem dL_drawn_7 : decode cL_drawn 7 = .ok (.iload_n 1, 1) := by decide +kernel
theorem dL_drawn_8 : decode cL_drawn 8 = .ok (.iaload, 1) := by decide +kernel
theorem dL_drawn_9 : decode cL_drawn 9 = .ok (.goto 12, 3) := by decide +kernel
theorem dL_drawn_12 : decode cL_drawn 12 = .ok (.sipush 12281, 3) := by decide +kernel
theorem dL_drawn_15 : decode cL_drawn 15 = .ok (.iload_n 1, 1) := by decide +kernel
theorem dL_drawn_16 : decode cL_drawn 16 = .ok (.imul, 1) := by decide +kernel
theorem dL_drawn_17 : decode cL_drawn 17 = .ok (.sipush 5011, 3) := by decide +kernel
theorem dL_drawn_20 : decode cL_drawn 20 = .ok (.iadd, 1) := by decide +kernel
theorem dL_drawn_21 : decode cL_drawn 21 = .ok (.istore_n 2, 1) := by decide +kernel
theorem dL_drawn_22 : decode cL_drawn 22 = .ok (.iload_n 2, 1) := by decide +kernel
theorem dL_drawn_23 : decode cL_drawn 23 = .ok (.ldc 7, 2) := by decide +kernel
theorem dL_drawn_25 : decode cL_drawn 25 = .ok (.iand, 1) := by decide +kernel
theorem dL_drawn_26 : decode cL_drawn 26 = .ok (.ireturn, 1) := by decide +kernel
set_option maxRecDepth 20000 in
theorem ggL_insert_X0_insert : GoodIn wsL_insert wsX0_insert := goodIn_ca (goodIn_ca (goodIn_ca (goodIn_r _ [8, 9, 10, 11, 12, 13, 14, 15, 7, 16, 17, 18, 19, 20, 21, 22, 23, 24, 25, 26, 27, 28, 29, 30, 31, 32, 33, 34, 35, 36, 37, 38, 39, 40, 41, 42, 43, 44, 45, 46, 47, 48, 49, 50, 51, 52, 53, 54, 55, 56, 57, 58, 59, 60, 61, 62, 63, 64, 65, 66, 67, 68, 69, 70, 71, 72, 73, 74, 75, 76, 77, 78, 79, 80, 81, 82, 83, 84, 85, 86, 87, 88, 89, 90, 91, 92, 93, 94, 95, 96, 97, 98, 99, 100] (by decide +kernel) (by decide +kernel)) (goodIn_sub (fun _ h => List.mem_cons_of_mem _ (List.mem_append_left _ (List.mem_append_left _ (List.mem_append_right _ h)))) (by decide +kernel))) (goodIn_sub (fun _ h => List.mem_cons_of_mem _ (List.mem_append_left _ (List.mem_append_right _ h))) (by decide +kernel))) (goodIn_sub (fun _ h => List.mem_cons_of_mem _ (List.mem_append_right _ h)) (by decide +kernel))
set_option maxRecDepth 20000 in
theorem gL_insert_X0_insert : GoodIn wsL_insert (wsV RL 8 RX0 yX0_insert wsX0_insert) := goodIn_app (goodIn_of _ (by decide +kernel)) ggL_insert_X0_insert
theorem dL_insert_0 : decode cL_insert 0 = .ok (.aload_n 0, 1) := by decide +kernel
theorem dL_insert_1 : decode cL_insert 1 = .ok (.iload_n 1, 1) := by decide +kernel
theorem dL_insert_2 : decode cL_insert 2 = .ok (.iload_n 2, 1) := by decide +kernel
theorem dL_insert_3 : decode cL_insert 3 = .ok (.iload_n 3, 1) := by decide +kernel
theorem dL_insert_4 : decode cL_insert 4 = .ok (.invokevirtual 8, 3) := by decide +kernel
theorem dL_insert_7 : decode cL_insert 7 = .ok (.ireturn, 1) := by decide +kernel
theorem dL_insert_8 : decode cL_insert 8 = .ok (.astore 4, 2) := by decide +kernel
theorem dL_insert_10 : decode cL_insert 10 = .ok (.bipush (-8), 2) := by decide +kernel
theorem dL_insert_12 : decode cL_insert 12 = .ok (.ireturn, 1) := by decide +kernel
theorem dL_insert_13 : decode cL_insert 13 = .ok (.astore 4, 2) := by decide +kernel
theorem dL_insert_15 : decode cL_insert 15 = .ok (.bipush (-8), 2) := by decide +kernel
theorem dL_insert_17 : decode cL_insert 17 = .ok (.ireturn, 1) := by decide +kernel
theorem dL_insert_18 : decode cL_insert 18 = .ok (.astore 4, 2) := by decide +kernel
theorem dL_insert_20 : decode cL_insert 20 = .ok (.bipush (-8), 2) := by decide +kernel
theorem dL_insert_22 : decode cL_insert 22 = .ok (.ireturn, 1) := by decide +kernel
set_option maxRecDepth 20000 in
theorem ggL_does_X0_delete : GoodIn wsL_does wsX0_delete := goodIn_ca (goodIn_ca (goodIn_r _ [7, 8, 9, 10, 11, 12, 6, 13, 14, 15, 16, 17, 18, 19, 20, 21, 22, 23, 24, 25, 26, 27, 28, 29, 30, 31, 32, 33, 34, 35, 36, 37, 38, 39, 40, 41, 42, 43, 44, 45, 46, 47, 48, 49, 50, 51, 52, 53, 54, 55, 56, 57, 58, 59, 60, 61, 62, 63, 64, 65, 66, 67, 68, 69, 70, 71, 72, 73, 74, 75, 76, 77, 78, 79, 107, 108, 109, 110, 111, 112, 113, 114, 115, 116, 117, 118, 119, 120] (by decide +kernel) (by decide +kernel)) (goodIn_sub (fun _ h => List.mem_cons_of_mem _ (List.mem_append_left _ (List.mem_append_right _ h))) (by decide +kernel))) (goodIn_sub (fun _ h => List.mem_cons_of_mem _ (List.mem_append_right _ h)) (by decide +kernel))
set_option maxRecDepth 20000 in
theorem gL_does_X0_delete : GoodIn wsL_does (wsV RL 20 RX0 yX0_delete wsX0_delete) := goodIn_app (goodIn_of _ (by decide +kernel)) ggL_does_X0_delete
set_option maxRecDepth 20000 in
theorem ggL_does_X0_learn : GoodIn wsL_does wsX0_learn := goodIn_ca (goodIn_r _ [83, 8, 10, 11, 12, 6, 13, 14, 15, 84, 85, 86, 87, 30, 88, 89, 90, 91, 92, 93, 94, 107, 108, 109, 110, 111, 112, 113, 114, 115, 116, 117, 118, 119, 120] (by decide +kernel) (by decide +kernel)) (goodIn_sub (fun _ h => List.mem_cons_of_mem _ (List.mem_append_left _ (List.mem_append_right _ h))) (by decide +kernel))
set_option maxRecDepth 20000 in
theorem gL_does_X0_learn : GoodIn wsL_does (wsV RL 24 RX0 yX0_learn wsX0_learn) := goodIn_app (goodIn_of _ (by decide +kernel)) ggL_does_X0_learn
set_option maxRecDepth 20000 in
theorem ggL_does_X0_learnEvent : GoodIn wsL_does wsX0_learnEvent := goodIn_ca (goodIn_r _ [98, 10, 11, 12, 6, 13, 14, 15, 99, 100, 101, 102, 46, 47, 48, 49, 28, 103, 104, 105, 106, 70, 34, 35, 36, 84, 85, 86, 87, 8, 30, 88, 89, 90, 91, 92, 93, 94, 107, 108, 109, 110, 111, 112, 113, 114, 115, 116, 117, 118, 119, 120] (by decide +kernel) (by decide +kernel)) (goodIn_sub (fun _ h => List.mem_cons_of_mem _ (List.mem_append_left _ (List.mem_append_right _ h))) (by decide +kernel))
set_option maxRecDepth 20000 in
theorem gL_does_X0_learnEvent : GoodIn wsL_does (wsV RL 27 RX0 yX0_learnEvent wsX0_learnEvent) := goodIn_app (goodIn_of _ (by decide +kernel)) ggL_does_X0_learnEvent
theorem dL_does_0 : decode cL_does 0 = .ok (.iload_n 1, 1) := by decide +kernel
theorem dL_does_1 : decode cL_does 1 = .ok (.ifCond .ne 12, 3) := by decide +kernel
theorem dL_does_4 : decode cL_does 4 = .ok (.aload_n 0, 1) := by decide +kernel
theorem dL_does_5 : decode cL_does 5 = .ok (.iload_n 2, 1) := by decide +kernel
theorem dL_does_6 : decode cL_does 6 = .ok (.iload_n 3, 1) := by decide +kernel
theorem dL_does_7 : decode cL_does 7 = .ok (.invokevirtual 20, 3) := by decide +kernel
theorem dL_does_10 : decode cL_does 10 = .ok (.goto 23, 3) := by decide +kernel
theorem dL_does_13 : decode cL_does 13 = .ok (.iload_n 1, 1) := by decide +kernel
theorem dL_does_14 : decode cL_does 14 = .ok (.iconst 1, 1) := by decide +kernel
theorem dL_does_15 : decode cL_does 15 = .ok (.if_icmp .ne 12, 3) := by decide +kernel
theorem dL_does_18 : decode cL_does 18 = .ok (.aload_n 0, 1) := by decide +kernel
theorem dL_does_19 : decode cL_does 19 = .ok (.iload_n 2, 1) := by decide +kernel
theorem dL_does_20 : decode cL_does 20 = .ok (.iload_n 3, 1) := by decide +kernel
theorem dL_does_21 : decode cL_does 21 = .ok (.invokevirtual 24, 3) := by decide +kernel
theorem dL_does_24 : decode cL_does 24 = .ok (.goto 9, 3) := by decide +kernel
theorem dL_does_27 : decode cL_does 27 = .ok (.aload_n 0, 1) := by decide +kernel
theorem dL_does_28 : decode cL_does 28 = .ok (.iload_n 2, 1) := by decide +kernel
theorem dL_does_29 : decode cL_does 29 = .ok (.iload_n 3, 1) := by decide +kernel
theorem dL_does_30 : decode cL_does 30 = .ok (.invokevirtual 27, 3) := by decide +kernel
theorem dL_does_33 : decode cL_does 33 = .ok (.ireturn, 1) := by decide +kernel
theorem dL_does_34 : decode cL_does 34 = .ok (.astore 4, 2) := by decide +kernel
theorem dL_does_36 : decode cL_does 36 = .ok (.bipush (-8), 2) := by decide +kernel
theorem dL_does_38 : decode cL_does 38 = .ok (.ireturn, 1) := by decide +kernel
theorem dL_does_39 : decode cL_does 39 = .ok (.astore 4, 2) := by decide +kernel
theorem dL_does_41 : decode cL_does 41 = .ok (.bipush (-8), 2) := by decide +kernel
theorem dL_does_43 : decode cL_does 43 = .ok (.ireturn, 1) := by decide +kernel
set_option maxRecDepth 20000 in
theorem ggL_of_X0_length : GoodIn wsL_of wsX0_length := goodIn_ca (goodIn_r _ [6, 7, 8, 9, 10, 5, 11, 12, 13, 14, 15, 16, 17, 18, 19, 20, 21, 22, 23, 24, 25, 26, 27, 28, 29, 30, 31, 32, 33, 34, 35, 36, 37, 38, 39, 40, 41, 42, 43, 44, 45, 46, 47, 48, 49, 50, 51, 52, 121, 122, 123, 124, 125, 126, 127, 128, 129, 130, 131, 132, 133, 134] (by decide +kernel) (by decide +kernel)) (goodIn_sub (fun _ h => List.mem_cons_of_mem _ (List.mem_append_right _ h)) (by decide +kernel))
set_option maxRecDepth 20000 in
theorem gL_of_X0_length : GoodIn wsL_of (wsV RL 30 RX0 yX0_length wsX0_length) := goodIn_app (goodIn_of _ (by decide +kernel)) ggL_of_X0_length
set_option maxRecDepth 20000 in
theorem ggL_of_X0_concurrent : GoodIn wsL_of wsX0_concurrent := goodIn_ca (goodIn_r _ [56, 7, 26, 28, 8, 9, 10, 5, 11, 12, 13, 29, 30, 31, 32, 33, 34, 57, 58, 59, 60, 61, 62, 63, 64, 65, 66, 67, 68, 69, 70, 71, 72, 73, 121, 122, 123, 124, 125, 126, 127, 128, 129, 130, 131, 132, 133, 134] (by decide +kernel) (by decide +kernel)) (goodIn_sub (fun _ h => List.mem_cons_of_mem _ (List.mem_append_right _ h)) (by decide +kernel))
set_option maxRecDepth 20000 in
theorem gL_of_X0_concurrent : GoodIn wsL_of (wsV RL 34 RX0 yX0_concurrent wsX0_concurrent) := goodIn_app (goodIn_of _ (by decide +kernel)) ggL_of_X0_concurrent
set_option maxRecDepth 20000 in
theorem ggL_of_X0_toReplay : GoodIn wsL_of wsX0_toReplay := goodIn_ca (goodIn_r _ [77, 7, 26, 28, 8, 9, 10, 5, 11, 12, 13, 78, 79, 80, 81, 29, 30, 31, 32, 33, 34, 57, 58, 59, 60, 61, 62, 63, 64, 65, 66, 67, 68, 69, 70, 71, 72, 73, 121, 122, 123, 124, 125, 126, 127, 128, 129, 130, 131, 132, 133, 134] (by decide +kernel) (by decide +kernel)) (goodIn_sub (fun _ h => List.mem_cons_of_mem _ (List.mem_append_right _ h)) (by decide +kernel))
set_option maxRecDepth 20000 in
theorem gL_of_X0_toReplay : GoodIn wsL_of (wsV RL 37 RX0 yX0_toReplay wsX0_toReplay) := goodIn_app (goodIn_of _ (by decide +kernel)) ggL_of_X0_toReplay
set_option maxRecDepth 20000 in
theorem ggL_of_X0_runs : GoodIn wsL_of wsX0_runs := goodIn_ca (goodIn_r _ [85, 7, 26, 8, 9, 10, 5, 11, 12, 13, 29, 30, 31, 32, 33, 34, 86, 87, 88, 89, 27, 90, 91, 35, 36, 37, 38, 39, 44, 45, 46, 47, 121, 122, 123, 124, 125, 126, 127, 128, 129, 130, 131, 132, 133, 134] (by decide +kernel) (by decide +kernel)) (goodIn_sub (fun _ h => List.mem_cons_of_mem _ (List.mem_append_right _ h)) (by decide +kernel))
set_option maxRecDepth 20000 in
theorem gL_of_X0_runs : GoodIn wsL_of (wsV RL 40 RX0 yX0_runs wsX0_runs) := goodIn_app (goodIn_of _ (by decide +kernel)) ggL_of_X0_runs
set_option maxRecDepth 20000 in
theorem ggL_of_X0_letterAt : GoodIn wsL_of wsX0_letterAt := goodIn_ca (goodIn_r _ [95, 39, 7, 8, 9, 10, 5, 11, 12, 13, 96, 97, 98, 99, 52, 14, 15, 16, 17, 18, 19, 20, 21, 22, 23, 24, 25, 26, 27, 28, 29, 30, 31, 32, 33, 34, 35, 36, 37, 38, 40, 41, 42, 43, 44, 45, 46, 47, 48, 49, 50, 51, 100, 101, 102, 103, 121, 122, 123, 124, 125, 126, 127, 128, 129, 130, 131, 132, 133, 134] (by decide +kernel) (by decide +kernel)) (goodIn_sub (fun _ h => List.mem_cons_of_mem _ (List.mem_append_right _ h)) (by decide +kernel))
set_option maxRecDepth 20000 in
theorem gL_of_X0_letterAt : GoodIn wsL_of (wsV RL 43 RX0 yX0_letterAt wsX0_letterAt) := goodIn_app (goodIn_of _ (by decide +kernel)) ggL_of_X0_letterAt
set_option maxRecDepth 20000 in
theorem ggL_of_X0_letterByList : GoodIn wsL_of wsX0_letterByList := goodIn_ca (goodIn_r _ [107, 7, 39, 52, 8, 9, 10, 5, 11, 12, 13, 108, 109, 110, 111, 112, 22, 23, 24, 25, 26, 27, 28, 29, 30, 31, 32, 33, 34, 35, 36, 37, 38, 113, 114, 115, 116, 44, 45, 46, 47, 48, 49, 50, 51, 100, 101, 102, 103, 121, 122, 123, 124, 125, 126, 127, 128, 129, 130, 131, 132, 133, 134] (by decide +kernel) (by decide +kernel)) (goodIn_sub (fun _ h => List.mem_cons_of_mem _ (List.mem_append_right _ h)) (by decide +kernel))
set_option maxRecDepth 20000 in
theorem gL_of_X0_letterByList : GoodIn wsL_of (wsV RL 46 RX0 yX0_letterByList wsX0_letterByList) := goodIn_app (goodIn_of _ (by decide +kernel)) ggL_of_X0_letterByList
set_option maxRecDepth 20000 in
theorem ggL_of_X0_eventAt : GoodIn wsL_of wsX0_eventAt := goodIn_ca (goodIn_r _ [120, 7, 8, 9, 10, 5, 11, 12, 13, 96, 97, 98, 99, 52, 14, 15, 16, 17, 18, 19, 20, 21, 22, 23, 24, 25, 26, 27, 28, 29, 30, 31, 32, 33, 34, 35, 36, 37, 38, 39, 40, 41, 42, 43, 44, 45, 46, 47, 48, 49, 50, 51, 100, 101, 102, 103, 121, 122, 123, 124, 125, 126, 127, 128, 129, 130, 131, 132, 133, 134] (by decide +kernel) (by decide +kernel)) (goodIn_sub (fun _ h => List.mem_cons_of_mem _ (List.mem_append_right _ h)) (by decide +kernel))
set_option maxRecDepth 20000 in
theorem gL_of_X0_eventAt : GoodIn wsL_of (wsV RL 49 RX0 yX0_eventAt wsX0_eventAt) := goodIn_app (goodIn_of _ (by decide +kernel)) ggL_of_X0_eventAt
theorem dL_of_0 : decode cL_of 0 = .ok (.iload_n 1, 1) := by decide +kernel
theorem dL_of_1 : decode cL_of 1 = .ok (.ifCond .ne 11, 3) := by decide +kernel
theorem dL_of_4 : decode cL_of 4 = .ok (.aload_n 0, 1) := by decide +kernel
theorem dL_of_5 : decode cL_of 5 = .ok (.iload_n 2, 1) := by decide +kernel
theorem dL_of_6 : decode cL_of 6 = .ok (.invokevirtual 30, 3) := by decide +kernel
theorem dL_of_9 : decode cL_of 9 = .ok (.goto 76, 3) := by decide +kernel
theorem dL_of_12 : decode cL_of 12 = .ok (.iload_n 1, 1) := by decide +kernel
theorem dL_of_13 : decode cL_of 13 = .ok (.iconst 1, 1) := by decide +kernel
theorem dL_of_14 : decode cL_of 14 = .ok (.if_icmp .ne 11, 3) := by decide +kernel
theorem dL_of_17 : decode cL_of 17 = .ok (.aload_n 0, 1) := by decide +kernel
theorem dL_of_18 : decode cL_of 18 = .ok (.iload_n 2, 1) := by decide +kernel
theorem dL_of_19 : decode cL_of 19 = .ok (.invokevirtual 34, 3) := by decide +kernel
theorem dL_of_22 : decode cL_of 22 = .ok (.goto 63, 3) := by decide +kernel
theorem dL_of_25 : decode cL_of 25 = .ok (.iload_n 1, 1) := by decide +kernel
theorem dL_of_26 : decode cL_of 26 = .ok (.iconst 2, 1) := by decide +kernel
theorem dL_of_27 : decode cL_of 27 = .ok (.if_icmp .ne 11, 3) := by decide +kernel
theorem dL_of_30 : decode cL_of 30 = .ok (.aload_n 0, 1) := by decide +kernel
theorem dL_of_31 : decode cL_of 31 = .ok (.iload_n 2, 1) := by decide +kernel
theorem dL_of_32 : decode cL_of 32 = .ok (.invokevirtual 37, 3) := by decide +kernel
theorem dL_of_35 : decode cL_of 35 = .ok (.goto 50, 3) := by decide +kernel
theorem dL_of_38 : decode cL_of 38 = .ok (.iload_n 1, 1) := by decide +kernel
theorem dL_of_39 : decode cL_of 39 = .ok (.iconst 3, 1) := by decide +kernel
theorem dL_of_40 : decode cL_of 40 = .ok (.if_icmp .ne 11, 3) := by decide +kernel
theorem dL_of_43 : decode cL_of 43 = .ok (.aload_n 0, 1) := by decide +kernel
theorem dL_of_44 : decode cL_of 44 = .ok (.iload_n 2, 1) := by decide +kernel
theorem dL_of_45 : decode cL_of 45 = .ok (.invokevirtual 40, 3) := by decide +kernel
theorem dL_of_48 : decode cL_of 48 = .ok (.goto 37, 3) := by decide +kernel
theorem dL_of_51 : decode cL_of 51 = .ok (.iload_n 1, 1) := by decide +kernel
theorem dL_of_52 : decode cL_of 52 = .ok (.iconst 4, 1) := by decide +kernel
theorem dL_of_53 : decode cL_of 53 = .ok (.if_icmp .ne 12, 3) := by decide +kernel
theorem dL_of_56 : decode cL_of 56 = .ok (.aload_n 0, 1) := by decide +kernel
theorem dL_of_57 : decode cL_of 57 = .ok (.iload_n 2, 1) := by decide +kernel
theorem dL_of_58 : decode cL_of 58 = .ok (.iload_n 3, 1) := by decide +kernel
theorem dL_of_59 : decode cL_of 59 = .ok (.invokevirtual 43, 3) := by decide +kernel
theorem dL_of_62 : decode cL_of 62 = .ok (.goto 23, 3) := by decide +kernel
theorem dL_of_65 : decode cL_of 65 = .ok (.iload_n 1, 1) := by decide +kernel
theorem dL_of_66 : decode cL_of 66 = .ok (.iconst 5, 1) := by decide +kernel
theorem dL_of_67 : decode cL_of 67 = .ok (.if_icmp .ne 12, 3) := by decide +kernel
theorem dL_of_70 : decode cL_of 70 = .ok (.aload_n 0, 1) := by decide +kernel
theorem dL_of_71 : decode cL_of 71 = .ok (.iload_n 2, 1) := by decide +kernel
theorem dL_of_72 : decode cL_of 72 = .ok (.iload_n 3, 1) := by decide +kernel
theorem dL_of_73 : decode cL_of 73 = .ok (.invokevirtual 46, 3) := by decide +kernel
theorem dL_of_76 : decode cL_of 76 = .ok (.goto 9, 3) := by decide +kernel
theorem dL_of_79 : decode cL_of 79 = .ok (.aload_n 0, 1) := by decide +kernel
theorem dL_of_80 : decode cL_of 80 = .ok (.iload_n 2, 1) := by decide +kernel
theorem dL_of_81 : decode cL_of 81 = .ok (.iload_n 3, 1) := by decide +kernel
theorem dL_of_82 : decode cL_of 82 = .ok (.invokevirtual 49, 3) := by decide +kernel
theorem dL_of_85 : decode cL_of 85 = .ok (.ireturn, 1) := by decide +kernel
theorem dL_of_86 : decode cL_of 86 = .ok (.astore 4, 2) := by decide +kernel
theorem dL_of_88 : decode cL_of 88 = .ok (.bipush (-8), 2) := by decide +kernel
theorem dL_of_90 : decode cL_of 90 = .ok (.ireturn, 1) := by decide +kernel
set_option maxRecDepth 20000 in
theorem ggL_set_X0_version : GoodIn wsL_set wsX0_version := goodIn_ca (goodIn_r _ [7, 8, 9, 10, 11, 6, 12, 13, 14, 90, 91, 92, 93, 94, 95, 96, 97, 98, 99, 100, 101, 102, 103] (by decide +kernel) (by decide +kernel)) (goodIn_sub (fun _ h => List.mem_cons_of_mem _ (List.mem_append_right _ h)) (by decide +kernel))
set_option maxRecDepth 20000 in
theorem gL_set_X0_version : GoodIn wsL_set (wsV RL 52 RX0 yX0_version wsX0_version) := goodIn_app (goodIn_of _ (by decide +kernel)) ggL_set_X0_version
set_option maxRecDepth 20000 in
theorem ggL_set_X0_heads : GoodIn wsL_set wsX0_heads := goodIn_ca (goodIn_r _ [18, 8, 9, 10, 11, 6, 12, 13, 14, 19, 20, 21, 22, 23, 24, 25, 26, 27, 28, 29, 30, 31, 90, 91, 92, 93, 94, 95, 96, 97, 98, 99, 100, 101, 102, 103] (by decide +kernel) (by decide +kernel)) (goodIn_sub (fun _ h => List.mem_cons_of_mem _ (List.mem_append_right _ h)) (by decide +kernel))
set_option maxRecDepth 20000 in
theorem gL_set_X0_heads : GoodIn wsL_set (wsV RL 56 RX0 yX0_heads wsX0_heads) := goodIn_app (goodIn_of _ (by decide +kernel)) ggL_set_X0_heads
set_option maxRecDepth 20000 in
theorem ggL_set_X0_critical : GoodIn wsL_set wsX0_critical := goodIn_ca (goodIn_r _ [35, 8, 9, 10, 11, 6, 12, 13, 14, 36, 37, 38, 39, 23, 25, 26, 27, 28, 29, 30, 31, 40, 41, 42, 43, 44, 45, 46, 47, 48, 49, 90, 91, 92, 93, 94, 95, 96, 97, 98, 99, 100, 101, 102, 103] (by decide +kernel) (by decide +kernel)) (goodIn_sub (fun _ h => List.mem_cons_of_mem _ (List.mem_append_right _ h)) (by decide +kernel))
set_option maxRecDepth 20000 in
theorem gL_set_X0_critical : GoodIn wsL_set (wsV RL 59 RX0 yX0_critical wsX0_critical) := goodIn_app (goodIn_of _ (by decide +kernel)) ggL_set_X0_critical
set_option maxRecDepth 20000 in
theorem ggL_set_X0_commonHeads : GoodIn wsL_set wsX0_commonHeads := goodIn_ca (goodIn_r _ [53, 8, 9, 10, 11, 6, 12, 13, 14, 19, 20, 21, 22, 23, 24, 25, 26, 27, 28, 29, 30, 31, 90, 91, 92, 93, 94, 95, 96, 97, 98, 99, 100, 101, 102, 103] (by decide +kernel) (by decide +kernel)) (goodIn_sub (fun _ h => List.mem_cons_of_mem _ (List.mem_append_right _ h)) (by decide +kernel))
set_option maxRecDepth 20000 in
theorem gL_set_X0_commonHeads : GoodIn wsL_set (wsV RL 62 RX0 yX0_commonHeads wsX0_commonHeads) := goodIn_app (goodIn_of _ (by decide +kernel)) ggL_set_X0_commonHeads
set_option maxRecDepth 20000 in
theorem ggL_set_X0_lettersBy : GoodIn wsL_set wsX0_lettersBy := goodIn_ca (goodIn_r _ [57, 8, 58, 59, 9, 10, 11, 6, 12, 13, 14, 60, 61, 62, 63, 64, 65, 66, 67, 68, 69, 70, 71, 23, 72, 25, 26, 27, 28, 29, 30, 31, 73, 74, 75, 76, 77, 78, 79, 80, 81, 82, 83, 84, 85, 86, 87, 88, 89, 90, 91, 92, 93, 94, 95, 96, 97, 98, 99, 100, 101, 102, 103] (by decide +kernel) (by decide +kernel)) (goodIn_sub (fun _ h => List.mem_cons_of_mem _ (List.mem_append_right _ h)) (by decide +kernel))
set_option maxRecDepth 20000 in
theorem gL_set_X0_lettersBy : GoodIn wsL_set (wsV RL 66 RX0 yX0_lettersBy wsX0_lettersBy) := goodIn_app (goodIn_of _ (by decide +kernel)) ggL_set_X0_lettersBy
theorem dL_set_0 : decode cL_set 0 = .ok (.iload_n 1, 1) := by decide +kernel
theorem dL_set_1 : decode cL_set 1 = .ok (.ifCond .ne 11, 3) := by decide +kernel
theorem dL_set_4 : decode cL_set 4 = .ok (.aload_n 0, 1) := by decide +kernel
theorem dL_set_5 : decode cL_set 5 = .ok (.iload_n 2, 1) := by decide +kernel
theorem dL_set_6 : decode cL_set 6 = .ok (.invokevirtual 52, 3) := by decide +kernel
theorem dL_set_9 : decode cL_set 9 = .ok (.goto 50, 3) := by decide +kernel
theorem dL_set_12 : decode cL_set 12 = .ok (.iload_n 1, 1) := by decide +kernel
theorem dL_set_13 : decode cL_set 13 = .ok (.iconst 1, 1) := by decide +kernel
theorem dL_set_14 : decode cL_set 14 = .ok (.if_icmp .ne 11, 3) := by decide +kernel
theorem dL_set_17 : decode cL_set 17 = .ok (.aload_n 0, 1) := by decide +kernel
theorem dL_set_18 : decode cL_set 18 = .ok (.iload_n 2, 1) := by decide +kernel
theorem dL_set_19 : decode cL_set 19 = .ok (.invokevirtual 56, 3) := by decide +kernel
theorem dL_set_22 : decode cL_set 22 = .ok (.goto 37, 3) := by decide +kernel
theorem dL_set_25 : decode cL_set 25 = .ok (.iload_n 1, 1) := by decide +kernel
theorem dL_set_26 : decode cL_set 26 = .ok (.iconst 2, 1) := by decide +kernel
theorem dL_set_27 : decode cL_set 27 = .ok (.if_icmp .ne 11, 3) := by decide +kernel
theorem dL_set_30 : decode cL_set 30 = .ok (.aload_n 0, 1) := by decide +kernel
theorem dL_set_31 : decode cL_set 31 = .ok (.iload_n 2, 1) := by decide +kernel
theorem dL_set_32 : decode cL_set 32 = .ok (.invokevirtual 59, 3) := by decide +kernel
theorem dL_set_35 : decode cL_set 35 = .ok (.goto 24, 3) := by decide +kernel
theorem dL_set_38 : decode cL_set 38 = .ok (.iload_n 1, 1) := by decide +kernel
theorem dL_set_39 : decode cL_set 39 = .ok (.iconst 3, 1) := by decide +kernel
theorem dL_set_40 : decode cL_set 40 = .ok (.if_icmp .ne 12, 3) := by decide +kernel
theorem dL_set_43 : decode cL_set 43 = .ok (.aload_n 0, 1) := by decide +kernel
theorem dL_set_44 : decode cL_set 44 = .ok (.iload_n 2, 1) := by decide +kernel
theorem dL_set_45 : decode cL_set 45 = .ok (.iload_n 3, 1) := by decide +kernel
theorem dL_set_46 : decode cL_set 46 = .ok (.invokevirtual 62, 3) := by decide +kernel
theorem dL_set_49 : decode cL_set 49 = .ok (.goto 10, 3) := by decide +kernel
theorem dL_set_52 : decode cL_set 52 = .ok (.aload_n 0, 1) := by decide +kernel
theorem dL_set_53 : decode cL_set 53 = .ok (.iload_n 2, 1) := by decide +kernel
theorem dL_set_54 : decode cL_set 54 = .ok (.iload_n 3, 1) := by decide +kernel
theorem dL_set_55 : decode cL_set 55 = .ok (.invokevirtual 66, 3) := by decide +kernel
theorem dL_set_58 : decode cL_set 58 = .ok (.i2l, 1) := by decide +kernel
theorem dL_set_59 : decode cL_set 59 = .ok (.lreturn, 1) := by decide +kernel
theorem dL_set_60 : decode cL_set 60 = .ok (.astore 4, 2) := by decide +kernel
theorem dL_set_62 : decode cL_set 62 = .ok (.ldc2_w 69, 3) := by decide +kernel
theorem dL_set_65 : decode cL_set 65 = .ok (.lreturn, 1) := by decide +kernel
set_option maxRecDepth 20000 in
theorem ggL_by_X0_parents : GoodIn wsL_by wsX0_parents := goodIn_ca (goodIn_r _ [7, 8, 9, 10, 11, 6, 12, 13, 14, 15, 16, 17, 18, 19, 84, 85, 86, 87, 88, 89, 90, 91, 92, 93, 94, 95, 96, 97] (by decide +kernel) (by decide +kernel)) (goodIn_sub (fun _ h => List.mem_cons_of_mem _ (List.mem_append_right _ h)) (by decide +kernel))
set_option maxRecDepth 20000 in
theorem gL_by_X0_parents : GoodIn wsL_by (wsV RL 71 RX0 yX0_parents wsX0_parents) := goodIn_app (goodIn_of _ (by decide +kernel)) ggL_by_X0_parents
set_option maxRecDepth 20000 in
theorem ggL_by_X0_lengthOf : GoodIn wsL_by wsX0_lengthOf := goodIn_ca (goodIn_r _ [23, 9, 10, 11, 6, 12, 13, 14, 15, 16, 17, 18, 19, 24, 25, 26, 27, 28, 29, 30, 31, 32, 33, 34, 35, 36, 37, 38, 39, 40, 41, 42, 43, 44, 45, 46, 47, 48, 49, 50, 51, 52, 53, 54, 55, 56, 57, 58, 59, 60, 61, 62, 84, 85, 86, 87, 88, 89, 90, 91, 92, 93, 94, 95, 96, 97] (by decide +kernel) (by decide +kernel)) (goodIn_sub (fun _ h => List.mem_cons_of_mem _ (List.mem_append_right _ h)) (by decide +kernel))
set_option maxRecDepth 20000 in
theorem gL_by_X0_lengthOf : GoodIn wsL_by (wsV RL 74 RX0 yX0_lengthOf wsX0_lengthOf) := goodIn_app (goodIn_of _ (by decide +kernel)) ggL_by_X0_lengthOf
set_option maxRecDepth 20000 in
theorem ggL_by_X0_letterOf : GoodIn wsL_by wsX0_letterOf := goodIn_ca (goodIn_r _ [66, 53, 9, 10, 11, 6, 12, 13, 14, 15, 16, 17, 18, 19, 24, 25, 26, 27, 28, 29, 30, 31, 67, 68, 69, 70, 62, 32, 33, 34, 35, 36, 37, 38, 39, 40, 41, 42, 43, 44, 45, 46, 47, 48, 49, 50, 51, 52, 54, 55, 56, 57, 58, 59, 60, 61, 71, 72, 73, 74, 84, 85, 86, 87, 88, 89, 90, 91, 92, 93, 94, 95, 96, 97] (by decide +kernel) (by decide +kernel)) (goodIn_sub (fun _ h => List.mem_cons_of_mem _ (List.mem_append_right _ h)) (by decide +kernel))
set_option maxRecDepth 20000 in
theorem gL_by_X0_letterOf : GoodIn wsL_by (wsV RL 77 RX0 yX0_letterOf wsX0_letterOf) := goodIn_app (goodIn_of _ (by decide +kernel)) ggL_by_X0_letterOf
set_option maxRecDepth 20000 in
theorem ggL_by_X0_isLater : GoodIn wsL_by wsX0_isLater := goodIn_ca (goodIn_r _ [78, 28, 9, 10, 11, 6, 12, 13, 14, 15, 16, 17, 18, 19, 46, 47, 48, 29, 30, 31, 84, 85, 86, 87, 88, 89, 90, 91, 92, 93, 94, 95, 96, 97] (by decide +kernel) (by decide +kernel)) (goodIn_sub (fun _ h => List.mem_cons_of_mem _ (List.mem_append_right _ h)) (by decide +kernel))
set_option maxRecDepth 20000 in
theorem gL_by_X0_isLater : GoodIn wsL_by (wsV RL 80 RX0 yX0_isLater wsX0_isLater) := goodIn_app (goodIn_of _ (by decide +kernel)) ggL_by_X0_isLater
set_option maxRecDepth 20000 in
theorem ggL_by_X0_authorOf : GoodIn wsL_by wsX0_authorOf := goodIn_ca (goodIn_r _ [82, 83, 9, 10, 11, 6, 12, 13, 14, 15, 16, 17, 18, 19, 84, 85, 86, 87, 88, 89, 90, 91, 92, 93, 94, 95, 96, 97] (by decide +kernel) (by decide +kernel)) (goodIn_sub (fun _ h => List.mem_cons_of_mem _ (List.mem_append_right _ h)) (by decide +kernel))
set_option maxRecDepth 20000 in
theorem gL_by_X0_authorOf : GoodIn wsL_by (wsV RL 84 RX0 yX0_authorOf wsX0_authorOf) := goodIn_app (goodIn_of _ (by decide +kernel)) ggL_by_X0_authorOf
theorem dL_by_0 : decode cL_by 0 = .ok (.iload_n 1, 1) := by decide +kernel
theorem dL_by_1 : decode cL_by 1 = .ok (.ifCond .ne 11, 3) := by decide +kernel
theorem dL_by_4 : decode cL_by 4 = .ok (.aload_n 0, 1) := by decide +kernel
theorem dL_by_5 : decode cL_by 5 = .ok (.iload_n 2, 1) := by decide +kernel
theorem dL_by_6 : decode cL_by 6 = .ok (.invokevirtual 71, 3) := by decide +kernel
theorem dL_by_9 : decode cL_by 9 = .ok (.goto 60, 3) := by decide +kernel
theorem dL_by_12 : decode cL_by 12 = .ok (.iload_n 1, 1) := by decide +kernel
theorem dL_by_13 : decode cL_by 13 = .ok (.iconst 1, 1) := by decide +kernel
theorem dL_by_14 : decode cL_by 14 = .ok (.if_icmp .ne 12, 3) := by decide +kernel
theorem dL_by_17 : decode cL_by 17 = .ok (.aload_n 0, 1) := by decide +kernel
theorem dL_by_18 : decode cL_by 18 = .ok (.iload_n 2, 1) := by decide +kernel
theorem dL_by_19 : decode cL_by 19 = .ok (.invokevirtual 74, 3) := by decide +kernel
theorem dL_by_22 : decode cL_by 22 = .ok (.i2l, 1) := by decide +kernel
theorem dL_by_23 : decode cL_by 23 = .ok (.goto 46, 3) := by decide +kernel
theorem dL_by_26 : decode cL_by 26 = .ok (.iload_n 1, 1) := by decide +kernel
theorem dL_by_27 : decode cL_by 27 = .ok (.iconst 2, 1) := by decide +kernel
theorem dL_by_28 : decode cL_by 28 = .ok (.if_icmp .ne 13, 3) := by decide +kernel
theorem dL_by_31 : decode cL_by 31 = .ok (.aload_n 0, 1) := by decide +kernel
theorem dL_by_32 : decode cL_by 32 = .ok (.iload_n 2, 1) := by decide +kernel
theorem dL_by_33 : decode cL_by 33 = .ok (.iload_n 3, 1) := by decide +kernel
theorem dL_by_34 : decode cL_by 34 = .ok (.invokevirtual 77, 3) := by decide +kernel
theorem dL_by_37 : decode cL_by 37 = .ok (.i2l, 1) := by decide +kernel
theorem dL_by_38 : decode cL_by 38 = .ok (.goto 31, 3) := by decide +kernel
theorem dL_by_41 : decode cL_by 41 = .ok (.iload_n 1, 1) := by decide +kernel
theorem dL_by_42 : decode cL_by 42 = .ok (.iconst 3, 1) := by decide +kernel
theorem dL_by_43 : decode cL_by 43 = .ok (.if_icmp .ne 20, 3) := by decide +kernel
theorem dL_by_46 : decode cL_by 46 = .ok (.aload_n 0, 1) := by decide +kernel
theorem dL_by_47 : decode cL_by 47 = .ok (.iload_n 2, 1) := by decide +kernel
theorem dL_by_48 : decode cL_by 48 = .ok (.iload_n 3, 1) := by decide +kernel
theorem dL_by_49 : decode cL_by 49 = .ok (.invokevirtual 80, 3) := by decide +kernel
theorem dL_by_52 : decode cL_by 52 = .ok (.ifCond .eq 7, 3) := by decide +kernel
theorem dL_by_55 : decode cL_by 55 = .ok (.lconst 1, 1) := by decide +kernel
theorem dL_by_56 : decode cL_by 56 = .ok (.goto 13, 3) := by decide +kernel
theorem dL_by_59 : decode cL_by 59 = .ok (.lconst 0, 1) := by decide +kernel
theorem dL_by_60 : decode cL_by 60 = .ok (.goto 9, 3) := by decide +kernel
theorem dL_by_63 : decode cL_by 63 = .ok (.aload_n 0, 1) := by decide +kernel
theorem dL_by_64 : decode cL_by 64 = .ok (.iload_n 2, 1) := by decide +kernel
theorem dL_by_65 : decode cL_by 65 = .ok (.invokevirtual 84, 3) := by decide +kernel
theorem dL_by_68 : decode cL_by 68 = .ok (.i2l, 1) := by decide +kernel
theorem dL_by_69 : decode cL_by 69 = .ok (.lreturn, 1) := by decide +kernel
theorem dL_by_70 : decode cL_by 70 = .ok (.astore 4, 2) := by decide +kernel
theorem dL_by_72 : decode cL_by 72 = .ok (.ldc2_w 69, 3) := by decide +kernel
theorem dL_by_75 : decode cL_by 75 = .ok (.lreturn, 1) := by decide +kernel
set_option maxRecDepth 20000 in
theorem ggL_law_X0_init : GoodIn wsL_law wsX0_init := goodIn_r _ [6, 7, 8, 9, 10, 11, 12, 13, 14, 15, 16, 17, 18, 19, 20, 21, 22, 23, 24, 25, 246, 247, 248, 249, 250, 251, 252, 253, 254, 255, 256, 257, 258, 259] (by decide +kernel) (by decide +kernel)
set_option maxRecDepth 20000 in
theorem gL_law_X0_init : GoodIn wsL_law (wsX0_init) := ggL_law_X0_init
set_option maxRecDepth 20000 in
theorem ggL_law_L_drawn : GoodIn wsL_law wsL_drawn := goodIn_r _ [29, 30] (by decide +kernel) (by decide +kernel)
set_option maxRecDepth 20000 in
theorem gL_law_L_drawn : GoodIn wsL_law (va_wsS RL 88 yL_drawn wsL_drawn) := goodIn_app (goodIn_of _ (by decide +kernel)) ggL_law_L_drawn
set_option maxRecDepth 20000 in
theorem ggL_law_X0_events : GoodIn wsL_law wsX0_events := goodIn_r _ [34, 10, 246, 247, 248, 249, 250, 251, 252, 253, 254, 255, 256, 257, 258, 259] (by decide +kernel) (by decide +kernel)
set_option maxRecDepth 20000 in
theorem gL_law_X0_events : GoodIn wsL_law (wsV RL 94 RX0 yX0_events wsX0_events) := goodIn_app (goodIn_of _ (by decide +kernel)) ggL_law_X0_events
set_option maxRecDepth 20000 in
theorem ggL_law_L_of : GoodIn wsL_law wsL_of := goodIn_ca (goodIn_r _ [37, 38, 39, 40, 41, 2, 42, 19, 43, 44, 45, 46, 47, 48, 49, 50, 51, 52, 20, 24, 22, 21, 53, 54, 55, 56, 10, 14, 57, 58, 59, 60, 61, 62, 63, 64, 65, 66, 67, 13, 68, 69, 70, 71, 72, 73, 74, 75, 76, 77, 78, 79, 23, 80, 81, 82, 83, 84, 85, 86, 87, 18, 88, 89, 90, 91, 17, 92, 93, 94, 95, 96, 97, 98, 99, 100, 101, 102, 103, 104, 105, 106, 107, 108, 109, 110, 111, 112, 113, 114, 16, 12, 115, 116, 117, 118, 119, 120, 121, 122, 123, 124, 125, 126, 127, 128, 129, 130, 131, 132, 133, 134, 25, 135, 136, 137, 138, 139, 140, 141, 142, 246, 247, 248, 249, 250, 251, 252, 253, 254, 255, 256, 257, 258, 259] (by decide +kernel) (by decide +kernel)) (goodIn_sub (fun _ h => List.mem_append_left _ (List.mem_append_left _ (List.mem_append_right _ h))) (by decide +kernel))
set_option maxRecDepth 20000 in
theorem gL_law_L_of : GoodIn wsL_law (va_wsS RL 98 yL_of wsL_of) := goodIn_app (goodIn_of _ (by decide +kernel)) ggL_law_L_of
set_option maxRecDepth 20000 in
theorem ggL_law_L_insert : GoodIn wsL_law wsL_insert := goodIn_ca (goodIn_ca (goodIn_ca (goodIn_r _ [145, 38, 146, 147, 148, 149, 150, 2, 151, 152, 153, 19, 23, 43, 44, 45, 46, 47, 48, 49, 50, 51, 52, 20, 24, 22, 21, 53, 54, 55, 56, 10, 14, 57, 58, 59, 60, 61, 62, 63, 64, 65, 66, 67, 13, 68, 69, 70, 71, 72, 73, 74, 75, 76, 77, 78, 79, 123, 124, 125, 126, 154, 155, 156, 157, 158, 159, 160, 161, 162, 163, 12, 16, 17, 164, 165, 166, 167, 168, 169, 170, 171, 18, 172, 173, 174, 175, 246, 247, 248, 249, 250, 251, 252, 253, 254, 255, 256, 257, 258, 259] (by decide +kernel) (by decide +kernel)) (goodIn_sub (fun _ h => List.mem_append_left _ (List.mem_append_right _ h)) (by decide +kernel))) (goodIn_sub (fun _ h => List.mem_append_left _ (List.mem_append_left _ (List.mem_append_right _ h))) (by decide +kernel))) (goodIn_sub (fun _ h => List.mem_append_right _ h) (by decide +kernel))
set_option maxRecDepth 20000 in
theorem gL_law_L_insert : GoodIn wsL_law (va_wsS RL 102 yL_insert wsL_insert) := goodIn_app (goodIn_of _ (by decide +kernel)) ggL_law_L_insert
set_option maxRecDepth 20000 in
theorem ggL_law_L_does : GoodIn wsL_law wsL_does := goodIn_ca (goodIn_ca (goodIn_r _ [178, 38, 147, 179, 180, 181, 2, 182, 19, 23, 43, 44, 45, 46, 47, 48, 49, 50, 51, 52, 20, 24, 22, 21, 53, 54, 55, 56, 10, 14, 57, 58, 59, 60, 61, 62, 63, 64, 65, 66, 67, 13, 68, 69, 70, 71, 72, 73, 74, 75, 76, 77, 78, 79, 123, 124, 125, 126, 154, 155, 156, 157, 158, 159, 160, 161, 162, 163, 12, 16, 17, 164, 165, 166, 167, 168, 169, 170, 171, 18, 183, 184, 185, 186, 187, 188, 189, 190, 92, 93, 94, 95, 96, 97, 98, 191, 192, 193, 194, 195, 196, 197, 198, 88, 89, 90, 91, 246, 247, 248, 249, 250, 251, 252, 253, 254, 255, 256, 257, 258, 259] (by decide +kernel) (by decide +kernel)) (goodIn_sub (fun _ h => List.mem_append_left _ (List.mem_append_left _ (List.mem_append_right _ h))) (by decide +kernel))) (goodIn_sub (fun _ h => List.mem_append_right _ h) (by decide +kernel))
set_option maxRecDepth 20000 in
theorem gL_law_L_does : GoodIn wsL_law (va_wsS RL 104 yL_does wsL_does) := goodIn_app (goodIn_of _ (by decide +kernel)) ggL_law_L_does
set_option maxRecDepth 20000 in
theorem ggL_law_L_set : GoodIn wsL_law wsL_set := goodIn_ca (goodIn_r _ [201, 38, 202, 203, 204, 205, 2, 206, 19, 43, 44, 45, 46, 47, 48, 207, 208, 209, 210, 164, 165, 166, 167, 10, 16, 57, 58, 59, 60, 61, 62, 63, 211, 212, 213, 214, 103, 104, 105, 106, 84, 85, 86, 87, 18, 88, 89, 90, 91, 17, 215, 216, 217, 218, 219, 220, 221, 222, 12, 23, 49, 50, 51, 52, 20, 24, 22, 21, 53, 54, 55, 56, 14, 64, 65, 66, 67, 13, 68, 69, 70, 71, 72, 73, 74, 75, 76, 77, 78, 79, 246, 247, 248, 249, 250, 251, 252, 253, 254, 255, 256, 257, 258, 259] (by decide +kernel) (by decide +kernel)) (goodIn_sub (fun _ h => List.mem_append_left _ (List.mem_append_left _ (List.mem_append_right _ h))) (by decide +kernel))
set_option maxRecDepth 20000 in
theorem gL_law_L_set : GoodIn wsL_law (va_wsS RL 107 yL_set wsL_set) := goodIn_app (goodIn_of _ (by decide +kernel)) ggL_law_L_set
set_option maxRecDepth 20000 in
theorem ggL_law_L_by : GoodIn wsL_law wsL_by := goodIn_ca (goodIn_r _ [225, 38, 202, 226, 227, 228, 2, 229, 16, 195, 196, 197, 198, 47, 48, 72, 73, 74, 75, 10, 230, 231, 232, 233, 88, 89, 90, 91, 17, 61, 62, 63, 49, 50, 51, 52, 20, 24, 22, 21, 53, 54, 55, 56, 14, 57, 58, 59, 60, 64, 65, 66, 67, 13, 68, 69, 70, 71, 76, 77, 78, 79, 23, 234, 235, 236, 237, 119, 120, 121, 122, 123, 124, 125, 126, 238, 239, 240, 241, 242, 243, 244, 245, 12, 246, 247, 248, 249, 250, 251, 252, 253, 254, 255, 256, 257, 258, 259] (by decide +kernel) (by decide +kernel)) (goodIn_sub (fun _ h => List.mem_append_left _ (List.mem_append_left _ (List.mem_append_right _ h))) (by decide +kernel))
set_option maxRecDepth 20000 in
theorem gL_law_L_by : GoodIn wsL_law (va_wsS RL 111 yL_by wsL_by) := goodIn_app (goodIn_of _ (by decide +kernel)) ggL_law_L_by
end
section
theorem dL_law_0 : decode cL_law 0 = .ok (.new 9, 3) := by decide +kernel
theorem dL_law_3 : decode cL_law 3 = .ok (.dup, 1) := by decide +kernel
theorem dL_law_4 : decode cL_law 4 = .ok (.invokespecial 87, 3) := by decide +kernel
theorem dL_law_7 : decode cL_law 7 = .ok (.astore_n 1, 1) := by decide +kernel
theorem dL_law_8 : decode cL_law 8 = .ok (.new 9, 3) := by decide +kernel
theorem dL_law_11 : decode cL_law 11 = .ok (.dup, 1) := by decide +kernel
theorem dL_law_12 : decode cL_law 12 = .ok (.invokespecial 87, 3) := by decide +kernel
theorem dL_law_15 : decode cL_law 15 = .ok (.astore_n 2, 1) := by decide +kernel
theorem dL_law_16 : decode cL_law 16 = .ok (.iconst 1, 1) := by decide +kernel
theorem dL_law_17 : decode cL_law 17 = .ok (.aload_n 0, 1) := by decide +kernel
theorem dL_law_18 : decode cL_law 18 = .ok (.iconst 0, 1) := by decide +kernel
theorem dL_law_19 : decode cL_law 19 = .ok (.invokestatic 88, 3) := by decide +kernel
theorem dL_law_22 : decode cL_law 22 = .ok (.iconst 3, 1) := by decide +kernel
theorem dL_law_23 : decode cL_law 23 = .ok (.irem, 1) := by decide +kernel
theorem dL_law_24 : decode cL_law 24 = .ok (.iadd, 1) := by decide +kernel
theorem dL_law_25 : decode cL_law 25 = .ok (.istore_n 3, 1) := by decide +kernel
theorem dL_law_26 : decode cL_law 26 = .ok (.iconst 1, 1) := by decide +kernel
theorem dL_law_27 : decode cL_law 27 = .ok (.istore 4, 2) := by decide +kernel
theorem dL_law_29 : decode cL_law 29 = .ok (.iconst 1, 1) := by decide +kernel
theorem dL_law_30 : decode cL_law 30 = .ok (.istore 5, 2) := by decide +kernel
theorem dL_law_32 : decode cL_law 32 = .ok (.iload 5, 2) := by decide +kernel
theorem dL_law_34 : decode cL_law 34 = .ok (.bipush 100, 2) := by decide +kernel
theorem dL_law_36 : decode cL_law 36 = .ok (.if_icmp .ge 498, 3) := by decide +kernel
theorem dL_law_39 : decode cL_law 39 = .ok (.iload 4, 2) := by decide +kernel
theorem dL_law_41 : decode cL_law 41 = .ok (.ifCond .eq 493, 3) := by decide +kernel
theorem dL_law_44 : decode cL_law 44 = .ok (.aload_n 0, 1) := by decide +kernel
theorem dL_law_45 : decode cL_law 45 = .ok (.iload 5, 2) := by decide +kernel
theorem dL_law_47 : decode cL_law 47 = .ok (.bipush 50, 2) := by decide +kernel
theorem dL_law_49 : decode cL_law 49 = .ok (.irem, 1) := by decide +kernel
theorem dL_law_50 : decode cL_law 50 = .ok (.invokestatic 88, 3) := by decide +kernel
theorem dL_law_53 : decode cL_law 53 = .ok (.iconst 1, 1) := by decide +kernel
theorem dL_law_54 : decode cL_law 54 = .ok (.iload 5, 2) := by decide +kernel
theorem dL_law_56 : decode cL_law 56 = .ok (.bipush 50, 2) := by decide +kernel
theorem dL_law_58 : decode cL_law 58 = .ok (.idiv, 1) := by decide +kernel
theorem dL_law_59 : decode cL_law 59 = .ok (.iadd, 1) := by decide +kernel
theorem dL_law_60 : decode cL_law 60 = .ok (.idiv, 1) := by decide +kernel
theorem dL_law_61 : decode cL_law 61 = .ok (.bipush 7, 2) := by decide +kernel
theorem dL_law_63 : decode cL_law 63 = .ok (.iload 5, 2) := by decide +kernel
theorem dL_law_65 : decode cL_law 65 = .ok (.bipush 50, 2) := by decide +kernel
theorem dL_law_67 : decode cL_law 67 = .ok (.idiv, 1) := by decide +kernel
theorem dL_law_68 : decode cL_law 68 = .ok (.imul, 1) := by decide +kernel
theorem dL_law_69 : decode cL_law 69 = .ok (.iadd, 1) := by decide +kernel
theorem dL_law_70 : decode cL_law 70 = .ok (.istore 6, 2) := by decide +kernel
theorem dL_law_72 : decode cL_law 72 = .ok (.iload 6, 2) := by decide +kernel
theorem dL_law_74 : decode cL_law 74 = .ok (.bipush 14, 2) := by decide +kernel
theorem dL_law_76 : decode cL_law 76 = .ok (.irem, 1) := by decide +kernel
theorem dL_law_77 : decode cL_law 77 = .ok (.istore 7, 2) := by decide +kernel
theorem dL_law_79 : decode cL_law 79 = .ok (.iload 6, 2) := by decide +kernel
theorem dL_law_81 : decode cL_law 81 = .ok (.bipush 14, 2) := by decide +kernel
theorem dL_law_83 : decode cL_law 83 = .ok (.idiv, 1) := by decide +kernel
theorem dL_law_84 : decode cL_law 84 = .ok (.istore 8, 2) := by decide +kernel
theorem dL_law_86 : decode cL_law 86 = .ok (.iload 8, 2) := by decide +kernel
theorem dL_law_88 : decode cL_law 88 = .ok (.iconst 4, 1) := by decide +kernel
theorem dL_law_89 : decode cL_law 89 = .ok (.irem, 1) := by decide +kernel
theorem dL_law_90 : decode cL_law 90 = .ok (.istore 9, 2) := by decide +kernel
theorem dL_law_92 : decode cL_law 92 = .ok (.iload 9, 2) := by decide +kernel
theorem dL_law_94 : decode cL_law 94 = .ok (.iload_n 3, 1) := by decide +kernel
theorem dL_law_95 : decode cL_law 95 = .ok (.iadd, 1) := by decide +kernel
theorem dL_law_96 : decode cL_law 96 = .ok (.iconst 4, 1) := by decide +kernel
theorem dL_law_97 : decode cL_law 97 = .ok (.irem, 1) := by decide +kernel
theorem dL_law_98 : decode cL_law 98 = .ok (.istore 10, 2) := by decide +kernel
theorem dL_law_100 : decode cL_law 100 = .ok (.iload 8, 2) := by decide +kernel
theorem dL_law_102 : decode cL_law 102 = .ok (.iconst 4, 1) := by decide +kernel
theorem dL_law_103 : decode cL_law 103 = .ok (.idiv, 1) := by decide +kernel
theorem dL_law_104 : decode cL_law 104 = .ok (.iconst 4, 1) := by decide +kernel
theorem dL_law_105 : decode cL_law 105 = .ok (.irem, 1) := by decide +kernel
theorem dL_law_106 : decode cL_law 106 = .ok (.istore 11, 2) := by decide +kernel
theorem dL_law_108 : decode cL_law 108 = .ok (.iload 11, 2) := by decide +kernel
theorem dL_law_110 : decode cL_law 110 = .ok (.iload_n 3, 1) := by decide +kernel
theorem dL_law_111 : decode cL_law 111 = .ok (.iadd, 1) := by decide +kernel
theorem dL_law_112 : decode cL_law 112 = .ok (.iconst 4, 1) := by decide +kernel
theorem dL_law_113 : decode cL_law 113 = .ok (.irem, 1) := by decide +kernel
theorem dL_law_114 : decode cL_law 114 = .ok (.istore 12, 2) := by decide +kernel
theorem dL_law_116 : decode cL_law 116 = .ok (.aload_n 1, 1) := by decide +kernel
theorem dL_law_117 : decode cL_law 117 = .ok (.invokevirtual 94, 3) := by decide +kernel
theorem dL_law_120 : decode cL_law 120 = .ok (.istore 13, 2) := by decide +kernel
theorem dL_law_122 : decode cL_law 122 = .ok (.iload 8, 2) := by decide +kernel
theorem dL_law_124 : decode cL_law 124 = .ok (.bipush 16, 2) := by decide +kernel
theorem dL_law_126 : decode cL_law 126 = .ok (.idiv, 1) := by decide +kernel
theorem dL_law_127 : decode cL_law 127 = .ok (.aload_n 1, 1) := by decide +kernel
theorem dL_law_128 : decode cL_law 128 = .ok (.iconst 0, 1) := by decide +kernel
theorem dL_law_129 : decode cL_law 129 = .ok (.iload 9, 2) := by decide +kernel
theorem dL_law_131 : decode cL_law 131 = .ok (.iconst 0, 1) := by decide +kernel
theorem dL_law_132 : decode cL_law 132 = .ok (.invokestatic 98, 3) := by decide +kernel
theorem dL_law_135 : decode cL_law 135 = .ok (.iconst 1, 1) := by decide +kernel
theorem dL_law_136 : decode cL_law 136 = .ok (.iadd, 1) := by decide +kernel
theorem dL_law_137 : decode cL_law 137 = .ok (.irem, 1) := by decide +kernel
theorem dL_law_138 : decode cL_law 138 = .ok (.istore 14, 2) := by decide +kernel
theorem dL_law_140 : decode cL_law 140 = .ok (.iload 7, 2) := by decide +kernel
theorem dL_law_142 : decode cL_law 142 = .ok (.bipush 7, 2) := by decide +kernel
theorem dL_law_144 : decode cL_law 144 = .ok (.if_icmp .ge 48, 3) := by decide +kernel
theorem dL_law_147 : decode cL_law 147 = .ok (.aload_n 1, 1) := by decide +kernel
theorem dL_law_148 : decode cL_law 148 = .ok (.iload 9, 2) := by decide +kernel
theorem dL_law_150 : decode cL_law 150 = .ok (.iload 14, 2) := by decide +kernel
theorem dL_law_152 : decode cL_law 152 = .ok (.iload 8, 2) := by decide +kernel
theorem dL_law_154 : decode cL_law 154 = .ok (.bipush 64, 2) := by decide +kernel
theorem dL_law_156 : decode cL_law 156 = .ok (.idiv, 1) := by decide +kernel
theorem dL_law_157 : decode cL_law 157 = .ok (.bipush 26, 2) := by decide +kernel
theorem dL_law_159 : decode cL_law 159 = .ok (.irem, 1) := by decide +kernel
theorem dL_law_160 : decode cL_law 160 = .ok (.invokestatic 102, 3) := by decide +kernel
theorem dL_law_163 : decode cL_law 163 = .ok (.aload_n 2, 1) := by decide +kernel
theorem dL_law_164 : decode cL_law 164 = .ok (.iload 10, 2) := by decide +kernel
theorem dL_law_166 : decode cL_law 166 = .ok (.iload 14, 2) := by decide +kernel
theorem dL_law_168 : decode cL_law 168 = .ok (.iload 8, 2) := by decide +kernel
theorem dL_law_170 : decode cL_law 170 = .ok (.bipush 64, 2) := by decide +kernel
theorem dL_law_172 : decode cL_law 172 = .ok (.idiv, 1) := by decide +kernel
theorem dL_law_173 : decode cL_law 173 = .ok (.bipush 26, 2) := by decide +kernel
theorem dL_law_175 : decode cL_law 175 = .ok (.irem, 1) := by decide +kernel
theorem dL_law_176 : decode cL_law 176 = .ok (.invokestatic 102, 3) := by decide +kernel
theorem dL_law_179 : decode cL_law 179 = .ok (.if_icmp .ne 7, 3) := by decide +kernel
theorem dL_law_182 : decode cL_law 182 = .ok (.iconst 1, 1) := by decide +kernel
theorem dL_law_183 : decode cL_law 183 = .ok (.goto 4, 3) := by decide +kernel
theorem dL_law_186 : decode cL_law 186 = .ok (.iconst 0, 1) := by decide +kernel
theorem dL_law_187 : decode cL_law 187 = .ok (.istore 4, 2) := by decide +kernel
theorem dL_law_189 : decode cL_law 189 = .ok (.goto 121, 3) := by decide +kernel
theorem dL_law_192 : decode cL_law 192 = .ok (.iload 7, 2) := by decide +kernel
theorem dL_law_194 : decode cL_law 194 = .ok (.bipush 9, 2) := by decide +kernel
theorem dL_law_196 : decode cL_law 196 = .ok (.if_icmp .ge 34, 3) := by decide +kernel
theorem dL_law_199 : decode cL_law 199 = .ok (.aload_n 1, 1) := by decide +kernel
theorem dL_law_200 : decode cL_law 200 = .ok (.iconst 0, 1) := by decide +kernel
theorem dL_law_201 : decode cL_law 201 = .ok (.iload 9, 2) := by decide +kernel
theorem dL_law_203 : decode cL_law 203 = .ok (.iload 14, 2) := by decide +kernel
theorem dL_law_205 : decode cL_law 205 = .ok (.invokestatic 104, 3) := by decide +kernel
theorem dL_law_208 : decode cL_law 208 = .ok (.aload_n 2, 1) := by decide +kernel
theorem dL_law_209 : decode cL_law 209 = .ok (.iconst 0, 1) := by decide +kernel
theorem dL_law_210 : decode cL_law 210 = .ok (.iload 10, 2) := by decide +kernel
theorem dL_law_212 : decode cL_law 212 = .ok (.iload 14, 2) := by decide +kernel
theorem dL_law_214 : decode cL_law 214 = .ok (.invokestatic 104, 3) := by decide +kernel
theorem dL_law_217 : decode cL_law 217 = .ok (.if_icmp .ne 7, 3) := by decide +kernel
theorem dL_law_220 : decode cL_law 220 = .ok (.iconst 1, 1) := by decide +kernel
theorem dL_law_221 : decode cL_law 221 = .ok (.goto 4, 3) := by decide +kernel
theorem dL_law_224 : decode cL_law 224 = .ok (.iconst 0, 1) := by decide +kernel
theorem dL_law_225 : decode cL_law 225 = .ok (.istore 4, 2) := by decide +kernel
theorem dL_law_227 : decode cL_law 227 = .ok (.goto 83, 3) := by decide +kernel
theorem dL_law_230 : decode cL_law 230 = .ok (.iload 7, 2) := by decide +kernel
theorem dL_law_232 : decode cL_law 232 = .ok (.bipush 13, 2) := by decide +kernel
theorem dL_law_234 : decode cL_law 234 = .ok (.if_icmp .ge 34, 3) := by decide +kernel
theorem dL_law_237 : decode cL_law 237 = .ok (.aload_n 1, 1) := by decide +kernel
theorem dL_law_238 : decode cL_law 238 = .ok (.iconst 1, 1) := by decide +kernel
theorem dL_law_239 : decode cL_law 239 = .ok (.iload 9, 2) := by decide +kernel
theorem dL_law_241 : decode cL_law 241 = .ok (.iload 11, 2) := by decide +kernel
theorem dL_law_243 : decode cL_law 243 = .ok (.invokestatic 104, 3) := by decide +kernel
theorem dL_law_246 : decode cL_law 246 = .ok (.aload_n 2, 1) := by decide +kernel
theorem dL_law_247 : decode cL_law 247 = .ok (.iconst 1, 1) := by decide +kernel
theorem dL_law_248 : decode cL_law 248 = .ok (.iload 10, 2) := by decide +kernel
theorem dL_law_250 : decode cL_law 250 = .ok (.iload 12, 2) := by decide +kernel
theorem dL_law_252 : decode cL_law 252 = .ok (.invokestatic 104, 3) := by decide +kernel
theorem dL_law_255 : decode cL_law 255 = .ok (.if_icmp .ne 7, 3) := by decide +kernel
theorem dL_law_258 : decode cL_law 258 = .ok (.iconst 1, 1) := by decide +kernel
theorem dL_law_259 : decode cL_law 259 = .ok (.goto 4, 3) := by decide +kernel
theorem dL_law_262 : decode cL_law 262 = .ok (.iconst 0, 1) := by decide +kernel
theorem dL_law_263 : decode cL_law 263 = .ok (.istore 4, 2) := by decide +kernel
theorem dL_law_265 : decode cL_law 265 = .ok (.goto 45, 3) := by decide +kernel
theorem dL_law_268 : decode cL_law 268 = .ok (.aload_n 1, 1) := by decide +kernel
theorem dL_law_269 : decode cL_law 269 = .ok (.iconst 2, 1) := by decide +kernel
theorem dL_law_270 : decode cL_law 270 = .ok (.iload 9, 2) := by decide +kernel
theorem dL_law_272 : decode cL_law 272 = .ok (.iload 8, 2) := by decide +kernel
theorem dL_law_274 : decode cL_law 274 = .ok (.iconst 4, 1) := by decide +kernel
theorem dL_law_275 : decode cL_law 275 = .ok (.idiv, 1) := by decide +kernel
theorem dL_law_276 : decode cL_law 276 = .ok (.iload 13, 2) := by decide +kernel
theorem dL_law_278 : decode cL_law 278 = .ok (.iconst 1, 1) := by decide +kernel
theorem dL_law_279 : decode cL_law 279 = .ok (.iadd, 1) := by decide +kernel
theorem dL_law_280 : decode cL_law 280 = .ok (.irem, 1) := by decide +kernel
theorem dL_law_281 : decode cL_law 281 = .ok (.invokestatic 104, 3) := by decide +kernel
theorem dL_law_284 : decode cL_law 284 = .ok (.aload_n 2, 1) := by decide +kernel
theorem dL_law_285 : decode cL_law 285 = .ok (.iconst 2, 1) := by decide +kernel
theorem dL_law_286 : decode cL_law 286 = .ok (.iload 10, 2) := by decide +kernel
theorem dL_law_288 : decode cL_law 288 = .ok (.iload 8, 2) := by decide +kernel
theorem dL_law_290 : decode cL_law 290 = .ok (.iconst 4, 1) := by decide +kernel
theorem dL_law_291 : decode cL_law 291 = .ok (.idiv, 1) := by decide +kernel
theorem dL_law_292 : decode cL_law 292 = .ok (.iload 13, 2) := by decide +kernel
theorem dL_law_294 : decode cL_law 294 = .ok (.iconst 1, 1) := by decide +kernel
theorem dL_law_295 : decode cL_law 295 = .ok (.iadd, 1) := by decide +kernel
theorem dL_law_296 : decode cL_law 296 = .ok (.irem, 1) := by decide +kernel
theorem dL_law_297 : decode cL_law 297 = .ok (.invokestatic 104, 3) := by decide +kernel
theorem dL_law_300 : decode cL_law 300 = .ok (.if_icmp .ne 7, 3) := by decide +kernel
theorem dL_law_303 : decode cL_law 303 = .ok (.iconst 1, 1) := by decide +kernel
theorem dL_law_304 : decode cL_law 304 = .ok (.goto 4, 3) := by decide +kernel
theorem dL_law_307 : decode cL_law 307 = .ok (.iconst 0, 1) := by decide +kernel
theorem dL_law_308 : decode cL_law 308 = .ok (.istore 4, 2) := by decide +kernel
theorem dL_law_310 : decode cL_law 310 = .ok (.iload 4, 2) := by decide +kernel
theorem dL_law_312 : decode cL_law 312 = .ok (.ifCond .eq 18, 3) := by decide +kernel
theorem dL_law_315 : decode cL_law 315 = .ok (.aload_n 1, 1) := by decide +kernel
theorem dL_law_316 : decode cL_law 316 = .ok (.invokevirtual 94, 3) := by decide +kernel
theorem dL_law_319 : decode cL_law 319 = .ok (.aload_n 2, 1) := by decide +kernel
theorem dL_law_320 : decode cL_law 320 = .ok (.invokevirtual 94, 3) := by decide +kernel
theorem dL_law_323 : decode cL_law 323 = .ok (.if_icmp .ne 7, 3) := by decide +kernel
theorem dL_law_326 : decode cL_law 326 = .ok (.iconst 1, 1) := by decide +kernel
theorem dL_law_327 : decode cL_law 327 = .ok (.goto 4, 3) := by decide +kernel
theorem dL_law_330 : decode cL_law 330 = .ok (.iconst 0, 1) := by decide +kernel
theorem dL_law_331 : decode cL_law 331 = .ok (.istore 4, 2) := by decide +kernel
theorem dL_law_333 : decode cL_law 333 = .ok (.iconst 0, 1) := by decide +kernel
theorem dL_law_334 : decode cL_law 334 = .ok (.istore 15, 2) := by decide +kernel
theorem dL_law_336 : decode cL_law 336 = .ok (.iload 15, 2) := by decide +kernel
theorem dL_law_338 : decode cL_law 338 = .ok (.bipush 7, 2) := by decide +kernel
theorem dL_law_340 : decode cL_law 340 = .ok (.if_icmp .ge 82, 3) := by decide +kernel
theorem dL_law_343 : decode cL_law 343 = .ok (.iload 4, 2) := by decide +kernel
theorem dL_law_345 : decode cL_law 345 = .ok (.ifCond .eq 77, 3) := by decide +kernel
theorem dL_law_348 : decode cL_law 348 = .ok (.iload 5, 2) := by decide +kernel
theorem dL_law_350 : decode cL_law 350 = .ok (.iconst 3, 1) := by decide +kernel
theorem dL_law_351 : decode cL_law 351 = .ok (.irem, 1) := by decide +kernel
theorem dL_law_352 : decode cL_law 352 = .ok (.iconst 2, 1) := by decide +kernel
theorem dL_law_353 : decode cL_law 353 = .ok (.if_icmp .ne 69, 3) := by decide +kernel
theorem dL_law_356 : decode cL_law 356 = .ok (.aload_n 1, 1) := by decide +kernel
theorem dL_law_357 : decode cL_law 357 = .ok (.iload 15, 2) := by decide +kernel
theorem dL_law_359 : decode cL_law 359 = .ok (.iload 9, 2) := by decide +kernel
theorem dL_law_361 : decode cL_law 361 = .ok (.iload 14, 2) := by decide +kernel
theorem dL_law_363 : decode cL_law 363 = .ok (.invokestatic 98, 3) := by decide +kernel
theorem dL_law_366 : decode cL_law 366 = .ok (.aload_n 2, 1) := by decide +kernel
theorem dL_law_367 : decode cL_law 367 = .ok (.iload 15, 2) := by decide +kernel
theorem dL_law_369 : decode cL_law 369 = .ok (.iload 10, 2) := by decide +kernel
theorem dL_law_371 : decode cL_law 371 = .ok (.iload 14, 2) := by decide +kernel
theorem dL_law_373 : decode cL_law 373 = .ok (.invokestatic 98, 3) := by decide +kernel
theorem dL_law_376 : decode cL_law 376 = .ok (.if_icmp .ne 37, 3) := by decide +kernel
theorem dL_law_379 : decode cL_law 379 = .ok (.iload 15, 2) := by decide +kernel
theorem dL_law_381 : decode cL_law 381 = .ok (.iconst 4, 1) := by decide +kernel
theorem dL_law_382 : decode cL_law 382 = .ok (.if_icmp .gt 27, 3) := by decide +kernel
theorem dL_law_385 : decode cL_law 385 = .ok (.aload_n 1, 1) := by decide +kernel
theorem dL_law_386 : decode cL_law 386 = .ok (.iload 15, 2) := by decide +kernel
theorem dL_law_388 : decode cL_law 388 = .ok (.iload 9, 2) := by decide +kernel
theorem dL_law_390 : decode cL_law 390 = .ok (.iload 11, 2) := by decide +kernel
theorem dL_law_392 : decode cL_law 392 = .ok (.invokestatic 107, 3) := by decide +kernel
theorem dL_law_395 : decode cL_law 395 = .ok (.aload_n 2, 1) := by decide +kernel
theorem dL_law_396 : decode cL_law 396 = .ok (.iload 15, 2) := by decide +kernel
theorem dL_law_398 : decode cL_law 398 = .ok (.iload 10, 2) := by decide +kernel
theorem dL_law_400 : decode cL_law 400 = .ok (.iload 12, 2) := by decide +kernel
theorem dL_law_402 : decode cL_law 402 = .ok (.invokestatic 107, 3) := by decide +kernel
theorem dL_law_405 : decode cL_law 405 = .ok (.lcmp, 1) := by decide +kernel
theorem dL_law_406 : decode cL_law 406 = .ok (.ifCond .ne 7, 3) := by decide +kernel
theorem dL_law_409 : decode cL_law 409 = .ok (.iconst 1, 1) := by decide +kernel
theorem dL_law_410 : decode cL_law 410 = .ok (.goto 4, 3) := by decide +kernel
theorem dL_law_413 : decode cL_law 413 = .ok (.iconst 0, 1) := by decide +kernel
theorem dL_law_414 : decode cL_law 414 = .ok (.istore 4, 2) := by decide +kernel
theorem dL_law_416 : decode cL_law 416 = .ok (.iinc 15 1, 3) := by decide +kernel
theorem dL_law_419 : decode cL_law 419 = .ok (.goto (-83), 3) := by decide +kernel
theorem dL_law_422 : decode cL_law 422 = .ok (.iconst 0, 1) := by decide +kernel
theorem dL_law_423 : decode cL_law 423 = .ok (.istore 15, 2) := by decide +kernel
theorem dL_law_425 : decode cL_law 425 = .ok (.iload 15, 2) := by decide +kernel
theorem dL_law_427 : decode cL_law 427 = .ok (.iconst 5, 1) := by decide +kernel
theorem dL_law_428 : decode cL_law 428 = .ok (.if_icmp .ge 100, 3) := by decide +kernel
theorem dL_law_431 : decode cL_law 431 = .ok (.iload 4, 2) := by decide +kernel
theorem dL_law_433 : decode cL_law 433 = .ok (.ifCond .eq 95, 3) := by decide +kernel
theorem dL_law_436 : decode cL_law 436 = .ok (.iload 13, 2) := by decide +kernel
theorem dL_law_438 : decode cL_law 438 = .ok (.ifCond .le 90, 3) := by decide +kernel
theorem dL_law_441 : decode cL_law 441 = .ok (.iload 5, 2) := by decide +kernel
theorem dL_law_443 : decode cL_law 443 = .ok (.iconst 5, 1) := by decide +kernel
theorem dL_law_444 : decode cL_law 444 = .ok (.irem, 1) := by decide +kernel
theorem dL_law_445 : decode cL_law 445 = .ok (.iconst 4, 1) := by decide +kernel
theorem dL_law_446 : decode cL_law 446 = .ok (.if_icmp .ne 82, 3) := by decide +kernel
theorem dL_law_449 : decode cL_law 449 = .ok (.iload 8, 2) := by decide +kernel
theorem dL_law_451 : decode cL_law 451 = .ok (.bipush 9, 2) := by decide +kernel
theorem dL_law_453 : decode cL_law 453 = .ok (.idiv, 1) := by decide +kernel
theorem dL_law_454 : decode cL_law 454 = .ok (.iload 13, 2) := by decide +kernel
theorem dL_law_456 : decode cL_law 456 = .ok (.irem, 1) := by decide +kernel
theorem dL_law_457 : decode cL_law 457 = .ok (.istore 16, 2) := by decide +kernel
theorem dL_law_459 : decode cL_law 459 = .ok (.aload_n 1, 1) := by decide +kernel
theorem dL_law_460 : decode cL_law 460 = .ok (.iload 15, 2) := by decide +kernel
theorem dL_law_462 : decode cL_law 462 = .ok (.iload 16, 2) := by decide +kernel
theorem dL_law_464 : decode cL_law 464 = .ok (.iload 8, 2) := by decide +kernel
theorem dL_law_466 : decode cL_law 466 = .ok (.iconst 5, 1) := by decide +kernel
theorem dL_law_467 : decode cL_law 467 = .ok (.idiv, 1) := by decide +kernel
theorem dL_law_468 : decode cL_law 468 = .ok (.iload 13, 2) := by decide +kernel
theorem dL_law_470 : decode cL_law 470 = .ok (.irem, 1) := by decide +kernel
theorem dL_law_471 : decode cL_law 471 = .ok (.invokestatic 111, 3) := by decide +kernel
theorem dL_law_474 : decode cL_law 474 = .ok (.lstore 17, 2) := by decide +kernel
theorem dL_law_476 : decode cL_law 476 = .ok (.aload_n 2, 1) := by decide +kernel
theorem dL_law_477 : decode cL_law 477 = .ok (.iload 15, 2) := by decide +kernel
theorem dL_law_479 : decode cL_law 479 = .ok (.iload 16, 2) := by decide +kernel
theorem dL_law_481 : decode cL_law 481 = .ok (.iload 8, 2) := by decide +kernel
theorem dL_law_483 : decode cL_law 483 = .ok (.iconst 5, 1) := by decide +kernel
theorem dL_law_484 : decode cL_law 484 = .ok (.idiv, 1) := by decide +kernel
theorem dL_law_485 : decode cL_law 485 = .ok (.iload 13, 2) := by decide +kernel
theorem dL_law_487 : decode cL_law 487 = .ok (.irem, 1) := by decide +kernel
theorem dL_law_488 : decode cL_law 488 = .ok (.invokestatic 111, 3) := by decide +kernel
theorem dL_law_491 : decode cL_law 491 = .ok (.iload 15, 2) := by decide +kernel
theorem dL_law_493 : decode cL_law 493 = .ok (.iconst 4, 1) := by decide +kernel
theorem dL_law_494 : decode cL_law 494 = .ok (.if_icmp .ne 15, 3) := by decide +kernel
theorem dL_law_497 : decode cL_law 497 = .ok (.lload 17, 2) := by decide +kernel
theorem dL_law_499 : decode cL_law 499 = .ok (.iload_n 3, 1) := by decide +kernel
theorem dL_law_500 : decode cL_law 500 = .ok (.i2l, 1) := by decide +kernel
theorem dL_law_501 : decode cL_law 501 = .ok (.ladd, 1) := by decide +kernel
theorem dL_law_502 : decode cL_law 502 = .ok (.ldc2_w 114, 3) := by decide +kernel
theorem dL_law_505 : decode cL_law 505 = .ok (.lrem, 1) := by decide +kernel
theorem dL_law_506 : decode cL_law 506 = .ok (.goto 5, 3) := by decide +kernel
theorem dL_law_509 : decode cL_law 509 = .ok (.lload 17, 2) := by decide +kernel
theorem dL_law_511 : decode cL_law 511 = .ok (.lcmp, 1) := by decide +kernel
theorem dL_law_512 : decode cL_law 512 = .ok (.ifCond .ne 7, 3) := by decide +kernel
theorem dL_law_515 : decode cL_law 515 = .ok (.iconst 1, 1) := by decide +kernel
theorem dL_law_516 : decode cL_law 516 = .ok (.goto 4, 3) := by decide +kernel
theorem dL_law_519 : decode cL_law 519 = .ok (.iconst 0, 1) := by decide +kernel
theorem dL_law_520 : decode cL_law 520 = .ok (.istore 4, 2) := by decide +kernel
theorem dL_law_522 : decode cL_law 522 = .ok (.iinc 15 1, 3) := by decide +kernel
theorem dL_law_525 : decode cL_law 525 = .ok (.goto (-100), 3) := by decide +kernel
theorem dL_law_528 : decode cL_law 528 = .ok (.iinc 5 1, 3) := by decide +kernel
theorem dL_law_531 : decode cL_law 531 = .ok (.goto (-499), 3) := by decide +kernel
theorem dL_law_534 : decode cL_law 534 = .ok (.iload 4, 2) := by decide +kernel
theorem dL_law_536 : decode cL_law 536 = .ok (.ireturn, 1) := by decide +kernel
end
section
-- MY ROWS over the kit's: readers, writers, throwers as three forms of contract; numbers as nI; truth values as eb
section EGA
/-- the addresses of a world -/
def eg_A (w : va_W) : Nat → Prop := fun q => q ∈ w.map Prod.fst
theorem eg_A_eq {w w' : va_W} (h : w'.map Prod.fst = w.map Prod.fst) : eg_A w' = eg_A w := by unfold eg_A; rw [h]
theorem eg_A_of {w : va_W} {k : Nat} {q : Nat × va_E} (h : w[k]? = some q) : eg_A w q.1 := List.mem_map.mpr ⟨q, List.mem_of_getElem? h, rfl⟩
theorem eg_A_ge {w : va_W} {sz q : Nat} (h : eg_A w q) : va_A w sz q := by
  obtain ⟨e, he, h2⟩ := List.mem_map.mp h
  obtain ⟨k, hk⟩ := List.getElem?_of_mem he
  exact Or.inl ⟨k, e.2, by rw [hk, ← h2]⟩
/-- apartness depends on the addresses alone -/
theorem eg_D_same {A : Nat → Prop} {w w' : va_W} (hD : va_D A w) (h : w'.map Prod.fst = w.map Prod.fst) : va_D A w' := by
  have key : ∀ (k : Nat) (q : Nat × va_E), w'[k]? = some q → ∃ q' : Nat × va_E, w[k]? = some q' ∧ q'.1 = q.1 := by
    intro k q hq
    have h1 : (w'.map Prod.fst)[k]? = some q.1 := by rw [List.getElem?_map, hq]; rfl
    rw [h, List.getElem?_map] at h1
    cases hw : w[k]? with
    | none => rw [hw] at h1; cases h1
    | some q' => rw [hw] at h1; exact ⟨q', rfl, Option.some.inj h1⟩
  refine ⟨fun i j p q hp hq e => ?_, fun k q hq => ?_⟩
  · obtain ⟨p', hp', ep⟩ := key i p hp
    obtain ⟨q', hq', eq⟩ := key j q hq
    exact hD.1 i j p' q' hp' hq' (by rw [ep, eq, e])
  · obtain ⟨q', hq', eq⟩ := key k q hq
    rw [← eq]
    exact hD.2 k q' hq'
theorem eg_D_of {A : Nat → Prop} {w : va_W} (hD : va_D A w) : va_D (eg_A w) w := ⟨hD.1, fun _ _ hq => eg_A_of hq⟩
theorem eg_D_in {A : Nat → Prop} {w : va_W} (hD : va_D A w) {q : Nat} (h : eg_A w q) : A q := by
  obtain ⟨e, he, h2⟩ := List.mem_map.mp h
  obtain ⟨k, hk⟩ := List.getElem?_of_mem he
  rw [← h2]
  exact hD.2 k e hk
theorem eg_S_F {A : Nat → Prop} {s t : State} {H : Heap} {locs : List Loc} (h : va_S A s.heap H locs) (ht : t.heap = H) : va_F A s t := h.F ht
end EGA
/-- a truth value as the machine holds it -/
def eb (b : Bool) : Int32 := if b then 1 else 0
theorem eb_0 {b : Bool} : eb b = 0 ↔ b = false := by cases b <;> decide
theorem eb_t : eb true = 1 := rfl
theorem eb_f : eb false = 0 := rfl
theorem eb_nar {b : Bool} : narrow .boolean (.int (eb b)) = .int (eb b) := by cases b <;> rfl
theorem eg_inc1 (i : Nat) : nI i + Int32.ofInt 1 = nI (i + 1) := nI_1 i
theorem eg_inc4 (i : Nat) : nI i + Int32.ofInt 4 = nI (i + 4) := nI_add i 4
theorem eg_dec1 {i : Nat} (h : 0 < i) : nI i + Int32.ofInt (-1) = nI (i - 1) := by
  obtain ⟨j, rfl⟩ : ∃ j, i = j + 1 := ⟨i - 1, by omega⟩
  exact pk_m1 j
theorem eg_cmp0 {x y : Int64} : lg_cmp x y = 0 ↔ x = y := by
  by_cases h1 : y < x
  · have e1 : lg_cmp x y = 1 := by simp [lg_cmp, h1]
    rw [e1]
    constructor
    · intro h; exact absurd h (by decide)
    · intro h; subst h; exact absurd h1 (by rw [Int64.lt_iff_toInt_lt]; omega)
  · by_cases h2 : x = y
    · subst h2
      have e1 : lg_cmp x x = 0 := by simp [lg_cmp]
      rw [e1]; simp
    · have e1 : lg_cmp x y = -1 := by simp [lg_cmp, h1, h2]
      rw [e1]
      constructor
      · intro h; exact absurd h (by decide)
      · intro h; exact absurd h h2
/-- a reader's end: this answer, the heap as it was -/
def eg_R (v : Option Value) : Array Value → State → Outcome → State → Prop := fun _ st oc t => oc = .returned v ∧ t.heap = st.heap
abbrev eg_MR (D : va_G) (tys : List (ClassId × FieldType)) (l : Launch) (y : MethodName) (ws : List Cond) (rm : Room) (av : List Value) (w : va_W) (v : Option Value) : Prop :=
  Met l y ws rm (va_Pc av (fun U => va_P D vwCl w U.heap ∧ va_K D vwCl tys U)) (eg_R v) 0 0 (fun _ => False)
/-- a writer's end: an answer and a world at the same addresses, all else as it was -/
def eg_Wq (D : va_G) (w0 : va_W) (Rq : Option Value → va_W → Prop) : Array Value → State → Outcome → State → Prop := fun _ st oc t =>
  ∃ (v : Option Value) (w1 : va_W), oc = .returned v ∧ Rq v w1 ∧ w1.map Prod.fst = w0.map Prod.fst ∧ va_P D vwCl w1 t.heap ∧ va_F (eg_A w0) st t
abbrev eg_MW (D : va_G) (tys : List (ClassId × FieldType)) (l : Launch) (y : MethodName) (ws : List Cond) (rm : Room) (mc ms : Nat) (av : List Value) (w0 : va_W) (Rq : Option Value → va_W → Prop) : Prop :=
  Met l y ws rm (va_Pc av (fun U => va_P D vwCl w0 U.heap ∧ va_K D vwCl tys U ∧ va_D (fun _ => True) w0)) (eg_Wq D w0 Rq) mc ms (eg_A w0)
/-- the words of throws and catches that speak of classes alone -/
def eg_N (U : State) : Prop := va_Nw (.declares ⟨"java/lang/RuntimeException", "<init>", "(Ljava/lang/String;)V"⟩) U ∧ va_Nw (.declares ⟨"java/lang/Exception", "<init>", "(Ljava/lang/String;)V"⟩) U ∧ va_Nw (.declares ⟨"java/lang/Throwable", "<init>", "(Ljava/lang/String;)V"⟩) U ∧
  va_Nw (.castable "java/lang/IndexOutOfBoundsException" "java/lang/IndexOutOfBoundsException") U ∧ va_Nw (.castable "java/lang/IllegalArgumentException" "java/lang/IllegalArgumentException") U ∧ va_Nw (.castable "java/lang/IllegalStateException" "java/lang/IllegalStateException") U ∧
  va_Nc "java/lang/IllegalArgumentException" "java/lang/IndexOutOfBoundsException" U ∧ va_Nc "java/lang/IllegalStateException" "java/lang/IndexOutOfBoundsException" U ∧ va_Nc "java/lang/IllegalStateException" "java/lang/IllegalArgumentException" U
theorem eg_N.at {s U : State} (h : eg_N s) (hW : s.WarmedH U.vm) : eg_N U :=
  ⟨va_Nw.warmD hW h.1, va_Nw.warmD hW h.2.1, va_Nw.warmD hW h.2.2.1, va_Nw.warmC hW h.2.2.2.1, va_Nw.warmC hW h.2.2.2.2.1, va_Nw.warmC hW h.2.2.2.2.2.1, va_Nc.moved hW.alike h.2.2.2.2.2.2.1, va_Nc.moved hW.alike h.2.2.2.2.2.2.2.1, va_Nc.moved hW.alike h.2.2.2.2.2.2.2.2⟩
theorem eg_N.same {s U : State} (h : eg_N s) (hv : s.vm = U.vm) : eg_N U := h.at (by rw [← hv]; exact State.WarmedH.refl s)
/-- what a throw needs of the JDK's statics and of the constant texts -/
def eg_T (A : Nat → Prop) (U : State) (H : Heap) : Prop := ((vx_Zq Bundle.tN "UNASSIGNED_STACK" Bundle.steD A U H ∧ vx_Zq Bundle.tN "SUPPRESSED_SENTINEL" Bundle.listD A U H) ∧ eg_N U) ∧
  ((∃ a, vk_R RX0 128 "no such author" a U) ∧ (∃ a, vk_R RX0 134 "no such event" a U) ∧ (∃ a, vk_R RX0 136 "no such place" a U) ∧ (∃ a, vk_R RX0 140 "no room for one more event" a U) ∧ (∃ a, vk_R RX0 68 "no such letter" a U))
theorem eg_T.at {A B : Nat → Prop} {s U : State} {H : Heap} {locs : List Loc} (h : eg_T A s s.heap) (hS : va_S A s.heap H locs) (hB : ∀ q, B q → A q) (hU : U.heap = H) (hW : s.WarmedH U.vm) : eg_T B U U.heap := by
  obtain ⟨⟨⟨h1, h2⟩, h3⟩, ⟨a1, k1⟩, ⟨a2, k2⟩, ⟨a3, k3⟩, ⟨a4, k4⟩, a5, k5⟩ := h
  rw [hU]
  exact ⟨⟨⟨((h1.kept hS.2.1).narrow hB).moved hW.alike, ((h2.kept hS.2.1).narrow hB).moved hW.alike⟩, h3.at hW⟩, ⟨a1, vk_R.warm hW k1⟩, ⟨a2, vk_R.warm hW k2⟩, ⟨a3, vk_R.warm hW k3⟩, ⟨a4, vk_R.warm hW k4⟩, a5, vk_R.warm hW k5⟩
theorem eg_T.calling {A : Nat → Prop} {U : State} {g : JFrame} {mk : MethodId} {a : Array Value} (h : eg_T A U U.heap) : eg_T A (U.calling g mk a) (U.calling g mk a).heap := by
  obtain ⟨⟨⟨h1, h2⟩, h3⟩, ⟨a1, k1⟩, ⟨a2, k2⟩, ⟨a3, k3⟩, ⟨a4, k4⟩, a5, k5⟩ := h
  exact ⟨⟨⟨vx_Zq.moved (u := U) (U := U.calling g mk a) (Vm.Alike.refl U.vm) h1, vx_Zq.moved (u := U) (U := U.calling g mk a) (Vm.Alike.refl U.vm) h2⟩, eg_N.same (U := U.calling g mk a) h3 rfl⟩, ⟨a1, vk_R.same rfl k1⟩, ⟨a2, vk_R.same rfl k2⟩, ⟨a3, vk_R.same rfl k3⟩, ⟨a4, vk_R.same rfl k4⟩, a5, vk_R.same rfl k5⟩
/-- a thrower's end: it throws an E, and leaves a world at the same addresses, all else as it was -/
def eg_XC (D : va_G) (w0 : va_W) (E : String) (Rq : va_W → Prop) : String → State → State → Prop := fun E' st t => E' = E ∧ st.heap.size + 1 ≤ t.heap.size ∧ ∃ w1 : va_W, Rq w1 ∧ w1.map Prod.fst = w0.map Prod.fst ∧ va_P D vwCl w1 t.heap ∧ va_F (eg_A w0) st t
abbrev eg_MX (D : va_G) (tys : List (ClassId × FieldType)) (l : Launch) (y : MethodName) (ws : List Cond) (rm : Room) (av : List Value) (w0 : va_W) (E : String) (Rq : va_W → Prop) : Prop :=
  vx_Met l y ws rm (va_Pc av (fun U => va_P D vwCl w0 U.heap ∧ va_K D vwCl tys U ∧ va_D (fun _ => True) w0 ∧ eg_T (eg_A w0) U U.heap)) (fun _ _ _ _ => False) (eg_XC D w0 E Rq) 1 6 (eg_A w0)
section EGR
variable {p : Program} {l : Launch} {e : Env} {R : Room} {s : State} {m : MethodId} {args : Array Value} {below : List Frame} {meth : Method} {c : Code} {H : Heap} {locs : List Loc} {cells slots : Nat} {Q : State → Prop}
variable {cc : ByteArray} {pc : Nat} {ls : Array Slot} {rest st0 : List Value} {D : va_G} {tys : List (ClassId × FieldType)} {w w0 w' : va_W} {A : Nat → Prop} {H0 : Heap} {a : Nat}
theorem eg_iald (hx : p.tables.exec = Jvm.exec) (hb : c.code = cc) (hK : va_K D vwCl tys s) (hP : va_P D vwCl w H) (q0 t0 : Nat) {cA : ClassId} {N i : Nat} {f : Nat → Int32} (ha : w[q0]? = some (a, .inl (cA, N, .inl f))) (ht : tys[t0]? = some (cA, .int)) (hi : i < N) (hN : N < 2 ^ 31) (hdg : decode cc pc = .ok (.iaload, 1))
    (kk : W p l e R s m args below meth c H locs cells slots Q (F0 m (pc + 1) ls (.int (f i) :: rest))) : W p l e R s m args below meth c H locs cells slots Q (F0 m pc ls (.int (nI i) :: .ref a :: rest)) :=
  va_iald hx hb hK hP q0 t0 ha ht (vp_in_nI hi hN) hdg (by rw [nI_clamp (Nat.lt_trans hi hN)]; exact kk)
theorem eg_lald (hx : p.tables.exec = Jvm.exec) (hb : c.code = cc) (hK : va_K D vwCl tys s) (hP : va_P D vwCl w H) (q0 t0 : Nat) {cA : ClassId} {N i : Nat} {f : Nat → Int64} (ha : w[q0]? = some (a, .inl (cA, N, .inr (.inl f)))) (ht : tys[t0]? = some (cA, .long)) (hi : i < N) (hN : N < 2 ^ 31) (hdg : decode cc pc = .ok (.laload, 1))
    (kk : W p l e R s m args below meth c H locs cells slots Q (F0 m (pc + 1) ls (.long (f i) :: rest))) : W p l e R s m args below meth c H locs cells slots Q (F0 m pc ls (.int (nI i) :: .ref a :: rest)) :=
  va_lald hx hb hK hP q0 t0 ha ht (vp_in_nI hi hN) hdg (by rw [nI_clamp (Nat.lt_trans hi hN)]; exact kk)
theorem eg_iast (hx : p.tables.exec = Jvm.exec) (hb : c.code = cc) (hK : va_K D vwCl tys s) (hP : va_P D vwCl w H) (hD : va_D A w0) (hw : w.map Prod.fst = w0.map Prod.fst) (hS : va_S A H0 H locs) (q0 t0 : Nat) {cA : ClassId} {N i : Nat} {f : Nat → Int32} {x : Int32} (ha : w[q0]? = some (a, .inl (cA, N, .inl f))) (ht : tys[t0]? = some (cA, .int)) (hi : i < N) (hN : N < 2 ^ 31) (hdg : decode cc pc = .ok (.iastore, 1)) (hw' : w.set q0 (a, .inl (cA, N, .inl (upd f i x))) = w')
    (kk : ∀ (H1 : Heap) (locs1 : List Loc), va_P D vwCl w' H1 → va_S A H0 H1 locs1 → W p l e R s m args below meth c H1 locs1 cells slots Q (F0 m (pc + 1) ls rest)) : W p l e R s m args below meth c H locs cells slots Q (F0 m pc ls (.int x :: .int (nI i) :: .ref a :: rest)) := by
  refine va_iast hx hb hK hP (eg_D_same hD hw) hS q0 t0 ha ht (vp_in_nI hi hN) hdg (fun H1 locs1 p1 _ s1 => kk H1 locs1 ?_ s1)
  rw [nI_clamp (Nat.lt_trans hi hN), hw'] at p1
  exact p1
theorem eg_last (hx : p.tables.exec = Jvm.exec) (hb : c.code = cc) (hK : va_K D vwCl tys s) (hP : va_P D vwCl w H) (hD : va_D A w0) (hw : w.map Prod.fst = w0.map Prod.fst) (hS : va_S A H0 H locs) (q0 t0 : Nat) {cA : ClassId} {N i : Nat} {f : Nat → Int64} {x : Int64} (ha : w[q0]? = some (a, .inl (cA, N, .inr (.inl f)))) (ht : tys[t0]? = some (cA, .long)) (hi : i < N) (hN : N < 2 ^ 31) (hdg : decode cc pc = .ok (.lastore, 1)) (hw' : w.set q0 (a, .inl (cA, N, .inr (.inl (vp_updL f i x)))) = w')
    (kk : ∀ (H1 : Heap) (locs1 : List Loc), va_P D vwCl w' H1 → va_S A H0 H1 locs1 → W p l e R s m args below meth c H1 locs1 cells slots Q (F0 m (pc + 1) ls rest)) : W p l e R s m args below meth c H locs cells slots Q (F0 m pc ls (.long x :: .int (nI i) :: .ref a :: rest)) := by
  refine va_last hx hb hK hP (eg_D_same hD hw) hS q0 t0 ha ht (vp_in_nI hi hN) hdg (fun H1 locs1 p1 _ s1 => kk H1 locs1 ?_ s1)
  rw [nI_clamp (Nat.lt_trans hi hN), hw'] at p1
  exact p1
theorem eg_ifeq_b (hx : p.tables.exec = Jvm.exec) (hb : c.code = cc) {b : Bool} {off : Int} {tgt : Nat} (hdg : decode cc pc = .ok (.ifCond .eq off, 3)) (ht : (pc : Int) + off = (tgt : Int)) (kt : b = false → W p l e R s m args below meth c H locs cells slots Q (F0 m tgt ls rest)) (kf : b = true → W p l e R s m args below meth c H locs cells slots Q (F0 m (pc + 3) ls rest)) : W p l e R s m args below meth c H locs cells slots Q (F0 m pc ls (.int (eb b) :: rest)) :=
  lv_if_eq hx hb hdg ht (fun h => kt (eb_0.mp h)) (fun h => kf (by cases b with | true => rfl | false => exact absurd rfl h))
theorem eg_ifne_b (hx : p.tables.exec = Jvm.exec) (hb : c.code = cc) {b : Bool} {off : Int} {tgt : Nat} (hdg : decode cc pc = .ok (.ifCond .ne off, 3)) (ht : (pc : Int) + off = (tgt : Int)) (kt : b = true → W p l e R s m args below meth c H locs cells slots Q (F0 m tgt ls rest)) (kf : b = false → W p l e R s m args below meth c H locs cells slots Q (F0 m (pc + 3) ls rest)) : W p l e R s m args below meth c H locs cells slots Q (F0 m pc ls (.int (eb b) :: rest)) :=
  lv_if_ne hx hb hdg ht (fun h => kt (by cases b with | true => rfl | false => exact absurd rfl h)) (fun h => kf (eb_0.mp h))
theorem eg_lcmp_eq (hx : p.tables.exec = Jvm.exec) (hb : c.code = cc) {x y : Int64} {off : Int} {tgt pc1 : Nat} (h1 : decode cc pc = .ok (.lcmp, 1)) (hp : pc + 1 = pc1) (hdg : decode cc pc1 = .ok (.ifCond .eq off, 3)) (ht : (pc1 : Int) + off = (tgt : Int)) (kt : x = y → W p l e R s m args below meth c H locs cells slots Q (F0 m tgt ls rest)) (kf : ¬ x = y → W p l e R s m args below meth c H locs cells slots Q (F0 m (pc1 + 3) ls rest)) : W p l e R s m args below meth c H locs cells slots Q (F0 m pc ls (.long y :: .long x :: rest)) := by
  subst hp
  exact W.lcmp hx hb h1 (lv_if_eq hx hb hdg ht (fun h => kt (eg_cmp0.mp h)) (fun h => kf (fun q => h (eg_cmp0.mpr q))))
theorem eg_lcmp_ne (hx : p.tables.exec = Jvm.exec) (hb : c.code = cc) {x y : Int64} {off : Int} {tgt pc1 : Nat} (h1 : decode cc pc = .ok (.lcmp, 1)) (hp : pc + 1 = pc1) (hdg : decode cc pc1 = .ok (.ifCond .ne off, 3)) (ht : (pc1 : Int) + off = (tgt : Int)) (kt : ¬ x = y → W p l e R s m args below meth c H locs cells slots Q (F0 m tgt ls rest)) (kf : x = y → W p l e R s m args below meth c H locs cells slots Q (F0 m (pc1 + 3) ls rest)) : W p l e R s m args below meth c H locs cells slots Q (F0 m pc ls (.long y :: .long x :: rest)) := by
  subst hp
  exact W.lcmp hx hb h1 (lv_if_ne hx hb hdg ht (fun h => kt (fun q => h (eg_cmp0.mpr q))) (fun h => kf (eg_cmp0.mp h)))
theorem eg_icmp_ge (hx : p.tables.exec = Jvm.exec) (hb : c.code = cc) {i j : Nat} {off : Int} {tgt : Nat} (hdg : decode cc pc = .ok (.if_icmp .ge off, 3)) (ht : (pc : Int) + off = (tgt : Int)) (hi : i < 2 ^ 31) (hj : j < 2 ^ 31) (kt : j ≤ i → W p l e R s m args below meth c H locs cells slots Q (F0 m tgt ls rest)) (kf : i < j → W p l e R s m args below meth c H locs cells slots Q (F0 m (pc + 3) ls rest)) : W p l e R s m args below meth c H locs cells slots Q (F0 m pc ls (.int (nI j) :: .int (nI i) :: rest)) :=
  lv_icmp_ge hx hb hdg ht (fun h => kt ((nI_leI hj hi).mp h)) (fun h => kf (Nat.lt_of_not_le (fun q => h ((nI_leI hj hi).mpr q))))
theorem eg_icmp_lt (hx : p.tables.exec = Jvm.exec) (hb : c.code = cc) {i j : Nat} {off : Int} {tgt : Nat} (hdg : decode cc pc = .ok (.if_icmp .lt off, 3)) (ht : (pc : Int) + off = (tgt : Int)) (hi : i < 2 ^ 31) (hj : j < 2 ^ 31) (kt : i < j → W p l e R s m args below meth c H locs cells slots Q (F0 m tgt ls rest)) (kf : j ≤ i → W p l e R s m args below meth c H locs cells slots Q (F0 m (pc + 3) ls rest)) : W p l e R s m args below meth c H locs cells slots Q (F0 m pc ls (.int (nI j) :: .int (nI i) :: rest)) :=
  lv_icmp_lt hx hb hdg ht (fun h => kt ((nI_ltI hi hj).mp h)) (fun h => kf (Nat.le_of_not_lt (fun q => h ((nI_ltI hi hj).mpr q))))
theorem eg_icmp_gt (hx : p.tables.exec = Jvm.exec) (hb : c.code = cc) {i j : Nat} {off : Int} {tgt : Nat} (hdg : decode cc pc = .ok (.if_icmp .gt off, 3)) (ht : (pc : Int) + off = (tgt : Int)) (hi : i < 2 ^ 31) (hj : j < 2 ^ 31) (kt : j < i → W p l e R s m args below meth c H locs cells slots Q (F0 m tgt ls rest)) (kf : i ≤ j → W p l e R s m args below meth c H locs cells slots Q (F0 m (pc + 3) ls rest)) : W p l e R s m args below meth c H locs cells slots Q (F0 m pc ls (.int (nI j) :: .int (nI i) :: rest)) :=
  lv_icmp_gt hx hb hdg ht (fun h => kt ((nI_ltI hj hi).mp h)) (fun h => kf (Nat.le_of_not_lt (fun q => h ((nI_ltI hj hi).mpr q))))
theorem eg_icmp_le (hx : p.tables.exec = Jvm.exec) (hb : c.code = cc) {i j : Nat} {off : Int} {tgt : Nat} (hdg : decode cc pc = .ok (.if_icmp .le off, 3)) (ht : (pc : Int) + off = (tgt : Int)) (hi : i < 2 ^ 31) (hj : j < 2 ^ 31) (kt : i ≤ j → W p l e R s m args below meth c H locs cells slots Q (F0 m tgt ls rest)) (kf : j < i → W p l e R s m args below meth c H locs cells slots Q (F0 m (pc + 3) ls rest)) : W p l e R s m args below meth c H locs cells slots Q (F0 m pc ls (.int (nI j) :: .int (nI i) :: rest)) :=
  lv_icmp_le hx hb hdg ht (fun h => kt ((nI_leI hi hj).mp h)) (fun h => kf (Nat.lt_of_not_le (fun q => h ((nI_leI hi hj).mpr q))))
theorem eg_if_le (hx : p.tables.exec = Jvm.exec) (hb : c.code = cc) {i : Nat} {off : Int} {tgt : Nat} (hdg : decode cc pc = .ok (.ifCond .le off, 3)) (ht : (pc : Int) + off = (tgt : Int)) (hi : i < 2 ^ 31) (kt : i = 0 → W p l e R s m args below meth c H locs cells slots Q (F0 m tgt ls rest)) (kf : 0 < i → W p l e R s m args below meth c H locs cells slots Q (F0 m (pc + 3) ls rest)) : W p l e R s m args below meth c H locs cells slots Q (F0 m pc ls (.int (nI i) :: rest)) :=
  lv_if_le hx hb hdg ht (fun h => kt (by have := (nI_leI (a := i) (b := 0) hi (by decide)).mp (by rw [nI_0]; exact h); omega)) (fun h => kf (Nat.pos_of_ne_zero (fun q => h (by rw [q, nI_0]; decide))))
theorem eg_if_ne (hx : p.tables.exec = Jvm.exec) (hb : c.code = cc) {i : Nat} {off : Int} {tgt : Nat} (hdg : decode cc pc = .ok (.ifCond .ne off, 3)) (ht : (pc : Int) + off = (tgt : Int)) (hi : i < 2 ^ 31) (kt : 0 < i → W p l e R s m args below meth c H locs cells slots Q (F0 m tgt ls rest)) (kf : i = 0 → W p l e R s m args below meth c H locs cells slots Q (F0 m (pc + 3) ls rest)) : W p l e R s m args below meth c H locs cells slots Q (F0 m pc ls (.int (nI i) :: rest)) :=
  lv_if_ne hx hb hdg ht (fun h => kt (Nat.pos_of_ne_zero (fun q => h (by rw [q, nI_0])))) (fun h => kf (Nat.eq_zero_of_not_pos (fun q => nI_ne0 q hi h)))
theorem eg_if_lt (hx : p.tables.exec = Jvm.exec) (hb : c.code = cc) {i : Nat} {off : Int} (hdg : decode cc pc = .ok (.ifCond .lt off, 3)) {tgt : Nat} (ht : (pc : Int) + off = (tgt : Int)) (hi : i < 2 ^ 31) (kf : W p l e R s m args below meth c H locs cells slots Q (F0 m (pc + 3) ls rest)) : W p l e R s m args below meth c H locs cells slots Q (F0 m pc ls (.int (nI i) :: rest)) :=
  lv_if_lt hx hb hdg ht (fun h => absurd h (nI_pos hi)) (fun _ => kf)
theorem eg_iadd (hx : p.tables.exec = Jvm.exec) (hb : c.code = cc) {i j : Nat} (hdg : decode cc pc = .ok (.iadd, 1)) (kk : W p l e R s m args below meth c H locs cells slots Q (F0 m (pc + 1) ls (.int (nI (i + j)) :: rest))) : W p l e R s m args below meth c H locs cells slots Q (F0 m pc ls (.int (nI j) :: .int (nI i) :: rest)) :=
  lv_iadd hx hb hdg (by rw [nI_add]; exact kk)
theorem eg_isub (hx : p.tables.exec = Jvm.exec) (hb : c.code = cc) {i j : Nat} (hdg : decode cc pc = .ok (.isub, 1)) (h : j ≤ i) (kk : W p l e R s m args below meth c H locs cells slots Q (F0 m (pc + 1) ls (.int (nI (i - j)) :: rest))) : W p l e R s m args below meth c H locs cells slots Q (F0 m pc ls (.int (nI j) :: .int (nI i) :: rest)) :=
  lv_isub hx hb hdg (by rw [pk_sub h]; exact kk)
/-- a call of a reader, by its object -/
theorem eg_callV {y : MethodName} {bytes : ByteArray} {maxL nL n index : Nat} {ret : Option FieldType} {ws Ts : List Cond} {rm : Room} {own C : String} {b : Addr} {As : List Value} {v : Option Value}
    (hx : p.tables.exec = Jvm.exec) (hb : c.code = cc) (hml : c.maxLocals = nL) (hown : s.vm.findClass own = some m.cls) (hts : ∀ w ∈ Ts, w.before args s = true) (hK : va_K D vwCl tys s) (hP : va_P D vwCl w H)
    (hM : eg_MR D tys l y ws rm (.ref b :: As) w v) (cw : CallW R s args own C index y bytes maxL ret ws rm 0 0 n) (hrc : ∃ cell : Cell, H[b]? = some cell ∧ cell.vm.isStatics = false ∧ s.vm.findClass C = some cell.cls)
    (hn : As.length = n) (hsize : ls.size = nL) (hst : st0 = As.reverse ++ .ref b :: rest) (hroom : (rest.map fun v => v.category).sum ≤ 8) (hdg : decode cc pc = .ok (.invokevirtual index, 3)) (hf : cells ≤ R.cells ∧ slots ≤ R.slots)
    (kk : W p l e R s m args below meth c H locs cells slots Q (F0 m (pc + 3) ls (v.toList ++ rest))) : W p l e R s m args below meth c H locs cells slots Q (F0 m pc ls st0) := by
  have hr := W.runV (g := F0 m pc ls st0) (H := H) (locs := locs) (cells := cells) (slots := slots) (e := e) (below := below) (meth := meth) (rest := rest) ⟨hx, hb, hml, hown, hts⟩ hM cw ⟨fun a U g mk q => by obtain ⟨q0, qP, qK⟩ := q; exact ⟨q0, qP, va_K.moved (u := U) (U := U.calling g mk a) (Vm.Alike.refl U.vm) qK⟩, hrc, fun U hU hW => ⟨rfl, by rw [hU]; exact hP, va_K.moved hW.alike hK⟩⟩ rfl hn hsize hst (lv_room hroom) hdg ⟨hf.1, hf.2⟩
  intro T hT X
  obtain ⟨v', st₀, t, T', L, h0, X', hL, e1, ⟨hv, hh⟩, st⟩ := hr T hT X
  cases hv
  obtain ⟨t2, a1, b1⟩ := kk T' (by rw [e1, hh, h0]) (Stand.forget X' (fun q h => (hL q h).elim))
  exact ⟨t2, st t2 a1, b1⟩
/-- a static call of a reader that needs no world -/
theorem eg_callS {y : MethodName} {bytes : ByteArray} {maxL nL n index : Nat} {ret : Option FieldType} {ws Ts : List Cond} {rm : Room} {own : String} {As : List Value} {v : Option Value}
    (hx : p.tables.exec = Jvm.exec) (hb : c.code = cc) (hml : c.maxLocals = nL) (hown : s.vm.findClass own = some m.cls) (hts : ∀ w ∈ Ts, w.before args s = true) (hK : va_K D vwCl tys s)
    (hM : eg_MR D tys l y ws rm As [] v) (cw : CallB R s args own index y bytes maxL ret ws rm 0 0 n ∧ (Cond.static y).before args s = true)
    (hn : As.length = n) (hsize : ls.size = nL) (hst : st0 = As.reverse ++ rest) (hroom : (rest.map fun v => v.category).sum ≤ 8) (hdg : decode cc pc = .ok (.invokestatic index, 3)) (hf : cells ≤ R.cells ∧ slots ≤ R.slots)
    (kk : W p l e R s m args below meth c H locs cells slots Q (F0 m (pc + 3) ls (v.toList ++ rest))) : W p l e R s m args below meth c H locs cells slots Q (F0 m pc ls st0) := by
  have hr := W.runS (g := F0 m pc ls st0) (H := H) (locs := locs) (cells := cells) (slots := slots) (e := e) (below := below) (meth := meth) (rest := rest) ⟨hx, hb, hml, hown, hts⟩ hM cw ⟨fun a U g mk q => by obtain ⟨q0, qP, qK⟩ := q; exact ⟨q0, qP, va_K.moved (u := U) (U := U.calling g mk a) (Vm.Alike.refl U.vm) qK⟩, fun U hU hW => ⟨rfl, fun k q h => by simp at h, va_K.moved hW.alike hK⟩⟩ rfl hn hsize hst (lv_room hroom) hdg ⟨hf.1, hf.2⟩
  intro T hT X
  obtain ⟨v', st₀, t, T', L, h0, X', hL, e1, ⟨hv, hh⟩, st⟩ := hr T hT X
  cases hv
  obtain ⟨t2, a1, b1⟩ := kk T' (by rw [e1, hh, h0]) (Stand.forget X' (fun q h => (hL q h).elim))
  exact ⟨t2, st t2 a1, b1⟩
end EGR
section EGJ
/-- behind a call on some of the cells: the others, and the callee's -/
theorem eg_join {D : va_G} {A : Nat → Prop} {w wc wr w1 : va_W} {H H1 : Heap} (hP : va_P D vwCl w H) (hD : va_D A w) (isC isR : List Nat) (hC : isC.map (fun i => w[i]?) = wc.map some) (hR : isR.map (fun i => w[i]?) = wr.map some) (hn : va_nd (isR ++ isC) = true)
    (hk : ∀ q : Nat, q < H.size → ¬ eg_A wc q → H1[q]? = H[q]?) (hw1 : w1.map Prod.fst = wc.map Prod.fst) (hP1 : va_P D vwCl w1 H1) : va_P D vwCl (wr ++ w1) H1 ∧ va_D A (wr ++ w1) := by
  have hS : (isR ++ isC).map (fun i => w[i]?) = (wr ++ wc).map some := by rw [List.map_append, List.map_append, hR, hC]
  have hD' := hD.sub _ hn hS
  refine ⟨va_P.app (fun k q hq => ?_) hP1, eg_D_same hD' (by rw [List.map_append, List.map_append, hw1])⟩
  have h1 : (isR.map (fun i => w[i]?))[k]? = some (some q) := by rw [hR, List.getElem?_map, hq]; rfl
  rw [List.getElem?_map] at h1
  cases hi : isR[k]? with
  | none => rw [hi] at h1; cases h1
  | some i =>
    rw [hi] at h1
    have h2 : w[i]? = some q := Option.some.inj h1
    refine (hP i q h2).kept (hk q.1 (hP i q h2).lt (fun h => ?_))
    obtain ⟨e9, he, h3⟩ := List.mem_map.mp h
    obtain ⟨j, hj⟩ := List.getElem?_of_mem he
    have hkl : k < wr.length := (List.getElem?_eq_some_iff.mp hq).1
    have g1 : (wr ++ wc)[k]? = some q := by rw [List.getElem?_append_left hkl]; exact hq
    have g2 : (wr ++ wc)[wr.length + j]? = some e9 := by rw [List.getElem?_append_right (by omega), Nat.add_sub_cancel_left]; exact hj
    have := hD'.1 k (wr.length + j) q e9 g1 g2 h3.symm
    omega
theorem eg_cut {D : va_G} {w wc : va_W} {H : Heap} (hP : va_P D vwCl w H) (isC : List Nat) (hC : isC.map (fun i => w[i]?) = wc.map some) : va_P D vwCl wc H := by
  intro k q hq
  have h1 : (isC.map (fun i => w[i]?))[k]? = some (some q) := by rw [hC, List.getElem?_map, hq]; rfl
  rw [List.getElem?_map] at h1
  cases hi : isC[k]? with
  | none => rw [hi] at h1; cases h1
  | some i =>
    rw [hi] at h1
    exact hP i q (Option.some.inj h1)
theorem eg_nd_r : ∀ (a b : List Nat), va_nd (a ++ b) = true → va_nd b = true
  | [], _, h => h
  | x :: a, b, h => eg_nd_r a b (by
      have h' : va_nd (x :: (a ++ b)) = true := h
      simp only [va_nd, Bool.and_eq_true] at h'
      exact h'.2)
end EGJ
section EGTH
variable {p : Program} {l : Launch} {e : Env} {R : Room} {s : State} {m : MethodId} {args : Array Value} {below : List Frame} {meth : Method} {c : Code} {H : Heap} {locs : List Loc} {cells slots : Nat} {Q : State → Prop}
variable {mc ms : Nat} {free : Addr → Prop} {A0 A1 : Nat → Prop} {H0 : Heap} {a : Array Value} {ls : Array Slot} {st0 rest : List Value}
variable {Qc : Array Value → State → Outcome → State → Prop} {XC : String → State → State → Prop}
/-- 'throw new E("text")' (kit/laws/EXCEPTIONS.to-paste's row, with one word more: a new cell stands behind it) -/
theorem eg_throwS {cc : ByteArray} {pc : Nat} (hexec : p.tables.exec = Jvm.exec) (hb : c.code = cc) (hl : l.stackTraces = false) {own cls text : String} {names : List String} {ik is ic mc ms sa : Nat} {A : Nat → Prop}
    (hown : s.vm.findClass own = some m.cls) (hcls : Bundle.fit cls = true) (hnames : ∀ n ∈ names, Bundle.fit n = true)
    (hk : (Cond.classLink own ik cls).before args s = true) (hini : (Cond.initialized cls).before args s = true) (hstr : vk_R own is text sa s) (hat : ∀ w ∈ vx_atS own ic cls names, w.before args s = true)
    (hgood : ∀ w ∈ Cond.classLink own ik cls :: Cond.initialized cls :: vx_atS own ic cls names, vx_ot w = true)
    (hU : vx_Zq Bundle.tN "UNASSIGNED_STACK" Bundle.steD A s s.heap) (hN : vx_Zq Bundle.tN "SUPPRESSED_SENTINEL" Bundle.listD A s s.heap) (hS : va_S A s.heap H locs) (hsize : ls.size = c.maxLocals)
    (d0 : decode cc pc = .ok (.new ik, 3)) (d3 : decode cc (pc + 3) = .ok (.dup, 1)) (d4 : decode cc (pc + 4) = .ok (.ldc is, 2)) (d6 : decode cc (pc + 6) = .ok (.invokespecial ic, 3)) (d9 : decode cc (pc + 9) = .ok (.athrow, 1))
    (hout : ∀ x ∈ c.exceptionTable.toList, covers x (pc + 9) = false)
    (hRframes : names.length + 3 < R.frames) (hRlocals : (rest.map fun v => v.category).sum + (13 * (names.length + 1) + 43) ≤ R.locals) (hRcells : cells + 1 ≤ R.cells) (hRslots : slots + 6 ≤ R.slots) (hlocks : meth.locks = false)
    (hx : ∀ t : State, s.vm.Alike t.vm → H.size + 1 ≤ t.heap.size → (∀ q : Nat, q < H.size → t.heap[q]? = H[q]?) → XC cls s t)
    (hf : ∀ z ∈ locs, free z.base) (hc : cells + 1 ≤ mc) (hs : slots + 6 ≤ ms) :
    W p l e R s m args below meth c H locs cells slots (vx_MQ below Qc XC args s mc ms free) (F0 m pc ls rest) := by
  intro T hT X
  have htr : e.platform.stackTraces = false := (show e.platform.stackTraces = l.stackTraces by rw [X.admits.platform]).trans hl
  have Y := vx_rebase X (R' := { frames := R.frames, locals := R.locals, cells := 1, slots := 6 }) (Nat.le_refl _) (Nat.le_refl _) hRcells hRslots
  obtain ⟨s', hA⟩ : ∃ z, z = (T.setVm s.vm).setFrames (.invoking m args :: below) := ⟨_, rfl⟩
  rw [← hA] at Y
  have hvm : s'.vm = s.vm := by rw [hA]; rfl
  have hhp : s'.heap = H := by rw [hA]; exact hT
  have hW0 : s.WarmedH s'.vm := by rw [hvm]; exact State.WarmedH.refl s
  have hat' : ∀ w ∈ vx_atS own ic cls names, w.before args s' = true := fun w hw => vx_ot_at hW0 hvm.symm (hgood w (List.mem_cons_of_mem _ (List.mem_cons_of_mem _ hw))) (hat w hw)
  have hk' : (Cond.classLink own ik cls).before args s' = true := vx_ot_at hW0 hvm.symm (hgood _ List.mem_cons_self) hk
  have hini' : (Cond.initialized cls).before args s' = true := vx_ot_at hW0 hvm.symm (hgood _ (List.mem_cons_of_mem _ List.mem_cons_self)) hini
  have hU' : vx_Zq Bundle.tN "UNASSIGNED_STACK" Bundle.steD A s' s'.heap := by rw [hhp]; exact vx_Zq.moved hW0.alike (hU.kept hS.2.1)
  have hN' : vx_Zq Bundle.tN "SUPPRESSED_SENTINEL" Bundle.listD A s' s'.heap := by rw [hhp]; exact vx_Zq.moved hW0.alike (hN.kept hS.2.1)
  have h : ∀ w ∈ Bundle.ownAtoms own ic cls names, w.before args s' = true := vx_own hat' (vx_isRefq hU'.1) (vx_isRefq hN'.1) hU'.2.word hN'.2.word
  have hown' : s'.vm.findClass own = some m.cls := by rw [hvm]; exact hown
  have hins : (Cond.instantiable cls 6).before args s' = true := h _ (by simp [Bundle.ownAtoms])
  obtain ⟨vm₁, cX, kX, hfX, hkX, -, -, X₁, st1⟩ := Y.newCold hexec (own := own) (C := cls) (index := ik) (n := 6) hown' hk' hins hini'
    (g := F0 m pc ls rest) rfl (by rw [hb]; exact d0) (Nat.le_refl _) (Nat.le_refl _)
  generalize hT1 : (T.setVm vm₁).pushCell { cls := cX, slots := kX.instanceTypes.map defaultValue, vm := .none } = T1 at X₁ st1
  have hcat : (Value.ref T.heap.size).category = 1 := rfl
  have hcellA : T1.heap[T.heap.size]? = some (freshCell cX kX) := by rw [← hT1]; exact State.heap_pushCell_size _ _
  have d3' : decode c.code (pc + 3) = .ok (.dup, 1) := by rw [hb]; exact d3
  have d4' : decode c.code (pc + 4) = .ok (.ldc is, 2) := by rw [hb]; exact d4
  have hstr' : vk_R own is text sa s' := vk_R.warm hW0 hstr
  obtain ⟨U, hsteps, hrun, hend, hW, hsame, ce, hce, hO⟩ := X₁.ctorThrowS hexec htr (own := own) (cls := cls) (names := names) (ic := ic) hown' hcls hnames h (fun x hx => nomatch hx) hfX hkX hcellA (by rw [hhp, hT]; exact Nat.le_refl _) (msg := .ref sa) rfl
    (g := { method := m, pc := pc + 6, locals := ls, stack := .ref sa :: .ref T.heap.size :: .ref T.heap.size :: rest, locked := none }) rfl hsize rfl rfl (rest := rest) rfl
    (by rw [hb]; exact d6) (by rw [hb]; exact d9) hout hRframes (by simp only [List.map_cons, List.sum_cons, hcat]; omega) hlocks
  obtain ⟨f1, f2⟩ := vx_frame hsame
  rw [hhp] at f1 f2
  have f3 : H.size + 1 ≤ U.heap.size := by
    have h9 := (Array.getElem?_eq_some_iff.mp hce).1
    rw [hT] at h9
    exact h9
  have hWs : s.WarmedH U.vm := State.WarmedH.trans hW0 hW
  have hcl : s.vm.findClass cls = some ce.cls := by
    have h9 := hO.cls
    rw [hvm] at h9
    exact h9
  have hall : s.sameButNew ({ U with vm := s.vm } : State) locs mc ms := by
    subst hA
    obtain ⟨e1, e2⟩ := hsame
    rw [State.setFrames_setFrames] at e1
    have h2 : (T.setVm s.vm).sameButNew ({ U with vm := s.vm } : State) [] (0 + 1) (0 + 6) := ⟨e1, e2⟩
    have h3 := X.same.trans h2
    rw [List.append_nil] at h3
    exact h3.mono hc hs
  refine ⟨U, ?_, .threw T.heap.size, hrun, hend, Or.inr ⟨T.heap.size, rfl, cls, ce, locs, hx U hWs.alike f3 (fun q hq => f2 q hq (fun z hz => nomatch hz)), hce, hO.vm, hcl, hWs, hall, hf⟩⟩
  refine st1 _ ?_
  show Steps p.tables e below (T1.setTop { method := m, pc := pc + 3, locals := ls, stack := .ref T.heap.size :: rest, locked := none }) _
  jvm_step X₁.here [X₁.here.top, hexec, d3', Value.category]
  exact X₁.ldcString hexec (own := own) (text := text) (index := is) (a := sa) hown' hstr'.1 hstr'.2
    (g := { method := m, pc := pc + 4, locals := ls, stack := .ref T.heap.size :: .ref T.heap.size :: rest, locked := none }) rfl d4' _ hsteps
end EGTH
section EGC
variable {p : Program} {l : Launch} {e : Env} {R : Room} {s : State} {m : MethodId} {args : Array Value} {below : List Frame} {meth : Method} {c : Code} {H : Heap} {locs : List Loc} {cells slots : Nat} {Q : State → Prop}
variable {cc : ByteArray} {pc : Nat} {ls : Array Slot} {rest st0 : List Value} {D : va_G} {tys : List (ClassId × FieldType)} {w w0 wc wr : va_W} {A : Nat → Prop} {H0 : Heap}
variable {y : MethodName} {bytes : ByteArray} {maxL nL n index mc ms : Nat} {ret : Option FieldType} {ws Ts : List Cond} {rm : Room} {own C : String} {b : Addr} {As : List Value} {Rq : Option Value → va_W → Prop} {Rx : va_W → Prop} {E : String}
/-- a call of a writer on the whole world, by its object -/
theorem eg_callWV (hx : p.tables.exec = Jvm.exec) (hb : c.code = cc) (hml : c.maxLocals = nL) (hown : s.vm.findClass own = some m.cls) (hts : ∀ w ∈ Ts, w.before args s = true) (hK : va_K D vwCl tys s) (hP : va_P D vwCl w H) (hD : va_D A w0) (hw : w.map Prod.fst = w0.map Prod.fst) (hS : va_S A H0 H locs)
    (hM : eg_MW D tys l y ws rm mc ms (.ref b :: As) w Rq) (cw : CallW R s args own C index y bytes maxL ret ws rm mc ms n) (hrc : ∃ cell : Cell, H[b]? = some cell ∧ cell.vm.isStatics = false ∧ s.vm.findClass C = some cell.cls)
    (hn : As.length = n) (hsize : ls.size = nL) (hst : st0 = As.reverse ++ .ref b :: rest) (hroom : (rest.map fun v => v.category).sum ≤ 8) (hdg : decode cc pc = .ok (.invokevirtual index, 3)) (hf : cells + mc ≤ R.cells ∧ slots + ms ≤ R.slots)
    (kk : ∀ (v : Option Value) (w1 : va_W) (H1 : Heap) (locs1 : List Loc), Rq v w1 → w1.map Prod.fst = w0.map Prod.fst → va_P D vwCl w1 H1 → va_S A H0 H1 locs1 → W p l e R s m args below meth c H1 locs1 (cells + mc) (slots + ms) Q (F0 m (pc + 3) ls (v.toList ++ rest))) : W p l e R s m args below meth c H locs cells slots Q (F0 m pc ls st0) := by
  have hD2 := eg_D_same hD hw
  have hr := W.runV (g := F0 m pc ls st0) (H := H) (locs := locs) (cells := cells) (slots := slots) (e := e) (below := below) (meth := meth) (rest := rest) ⟨hx, hb, hml, hown, hts⟩ hM cw ⟨fun a U g mk q => by obtain ⟨q0, qP, qK, qD⟩ := q; exact ⟨q0, qP, va_K.moved (u := U) (U := U.calling g mk a) (Vm.Alike.refl U.vm) qK, qD⟩, hrc, fun U hU hW => ⟨rfl, by rw [hU]; exact hP, va_K.moved hW.alike hK, hD2.weaken (fun _ _ _ _ => trivial)⟩⟩ rfl hn hsize hst (lv_room hroom) hdg hf
  intro T hT X
  obtain ⟨v', st₀, t, T', L, h0, X', hL, e1, ⟨v, w1, hv, hR, hw1, hP1, hF⟩, st⟩ := hr T hT X
  cases hv
  obtain ⟨-, -, k3⟩ := vx_keep h0 e1 hS (fun q _ h => eg_D_in hD2 h) (fun q h => eg_D_in hD2 h) hL hF
  obtain ⟨t2, a1, b1⟩ := kk v' w1 T'.heap (locs ++ L) hR (hw1.trans hw) (by rw [e1]; exact hP1) k3 T' rfl X'
  exact ⟨t2, st t2 a1, b1⟩
/-- a call of a writer on some of the cells, by its object -/
theorem eg_callWVc (hx : p.tables.exec = Jvm.exec) (hb : c.code = cc) (hml : c.maxLocals = nL) (hown : s.vm.findClass own = some m.cls) (hts : ∀ w ∈ Ts, w.before args s = true) (hK : va_K D vwCl tys s) (hP : va_P D vwCl w H) (hD : va_D A w) (hS : va_S A H0 H locs) (isC isR : List Nat) (hC : isC.map (fun i => w[i]?) = wc.map some) (hR : isR.map (fun i => w[i]?) = wr.map some) (hnd : va_nd (isR ++ isC) = true)
    (hM : eg_MW D tys l y ws rm mc ms (.ref b :: As) wc Rq) (cw : CallW R s args own C index y bytes maxL ret ws rm mc ms n) (hrc : ∃ cell : Cell, H[b]? = some cell ∧ cell.vm.isStatics = false ∧ s.vm.findClass C = some cell.cls)
    (hn : As.length = n) (hsize : ls.size = nL) (hst : st0 = As.reverse ++ .ref b :: rest) (hroom : (rest.map fun v => v.category).sum ≤ 8) (hdg : decode cc pc = .ok (.invokevirtual index, 3)) (hf : cells + mc ≤ R.cells ∧ slots + ms ≤ R.slots)
    (kk : ∀ (v : Option Value) (w1 : va_W) (H1 : Heap) (locs1 : List Loc), Rq v w1 → w1.map Prod.fst = wc.map Prod.fst → va_P D vwCl (wr ++ w1) H1 → va_D A (wr ++ w1) → va_S A H0 H1 locs1 → W p l e R s m args below meth c H1 locs1 (cells + mc) (slots + ms) Q (F0 m (pc + 3) ls (v.toList ++ rest))) : W p l e R s m args below meth c H locs cells slots Q (F0 m pc ls st0) := by
  have hD2 : va_D A wc := hD.sub isC (eg_nd_r _ _ hnd) hC
  have hr := W.runV (g := F0 m pc ls st0) (H := H) (locs := locs) (cells := cells) (slots := slots) (e := e) (below := below) (meth := meth) (rest := rest) ⟨hx, hb, hml, hown, hts⟩ hM cw ⟨fun a U g mk q => by obtain ⟨q0, qP, qK, qD⟩ := q; exact ⟨q0, qP, va_K.moved (u := U) (U := U.calling g mk a) (Vm.Alike.refl U.vm) qK, qD⟩, hrc, fun U hU hW => ⟨rfl, by rw [hU]; exact eg_cut hP isC hC, va_K.moved hW.alike hK, hD2.weaken (fun _ _ _ _ => trivial)⟩⟩ rfl hn hsize hst (lv_room hroom) hdg hf
  intro T hT X
  obtain ⟨v', st₀, t, T', L, h0, X', hL, e1, ⟨v, w1, hv, hR2, hw1, hP1, hF⟩, st⟩ := hr T hT X
  cases hv
  obtain ⟨-, k2, k3⟩ := vx_keep h0 e1 hS (fun q _ h => eg_D_in hD2 h) (fun q h => eg_D_in hD2 h) hL hF
  obtain ⟨j1, j2⟩ := eg_join hP hD isC isR hC hR hnd k2 hw1 (by rw [e1]; exact hP1)
  obtain ⟨t2, a1, b1⟩ := kk v' w1 T'.heap (locs ++ L) hR2 hw1 j1 j2 k3 T' rfl X'
  exact ⟨t2, st t2 a1, b1⟩
/-- a call that throws, by its object -/
theorem eg_callX (hx : p.tables.exec = Jvm.exec) (hb : c.code = cc) (hml : c.maxLocals = nL) (hown : s.vm.findClass own = some m.cls) (hts : ∀ w ∈ Ts, w.before args s = true) (hK : va_K D vwCl tys s) (hP : va_P D vwCl w H) (hD : va_D A w) (hS : va_S A s.heap H locs) (hT9 : eg_T A s s.heap) (isC isR : List Nat) (hC : isC.map (fun i => w[i]?) = wc.map some) (hR : isR.map (fun i => w[i]?) = wr.map some) (hnd : va_nd (isR ++ isC) = true)
    (hM : eg_MX D tys l y ws rm (.ref b :: As) wc E Rx) (cw : CallW R s args own C index y bytes maxL ret ws rm 1 6 n) (hrc : ∃ cell : Cell, H[b]? = some cell ∧ cell.vm.isStatics = false ∧ s.vm.findClass C = some cell.cls)
    (hn : As.length = n) (hsize : ls.size = nL) (hst : st0 = As.reverse ++ .ref b :: rest) (hroom : (rest.map fun v => v.category).sum ≤ 8) (hdg : decode cc pc = .ok (.invokevirtual index, 3)) (hf : cells + 1 ≤ R.cells ∧ slots + 6 ≤ R.slots)
    (kx : ∀ (w1 : va_W) (H1 : Heap) (locs1 : List Loc) (q9 : Addr) (ce : Cell), H.size + 1 ≤ H1.size → Rx w1 → w1.map Prod.fst = wc.map Prod.fst → va_P D vwCl (wr ++ w1) H1 → va_D A (wr ++ w1) → va_S A s.heap H1 locs1 → H1[q9]? = some ce → ce.vm = .none → s.vm.findClass E = some ce.cls → vx_W p l e R s m args below meth c H1 locs1 (cells + 1) (slots + 6) Q (F0 m pc ls rest) q9) : W p l e R s m args below meth c H locs cells slots Q (F0 m pc ls st0) := by
  have hD2 : va_D A wc := hD.sub isC (eg_nd_r _ _ hnd) hC
  have hr := vx_runV (g := F0 m pc ls st0) (H := H) (locs := locs) (cells := cells) (slots := slots) (e := e) (below := below) (meth := meth) (rest := rest) ⟨hx, hb, hml, hown, hts⟩ hM cw ⟨fun a U g mk q => by obtain ⟨q0, qP, qK, qD, qT⟩ := q; exact ⟨q0, qP, va_K.moved (u := U) (U := U.calling g mk a) (Vm.Alike.refl U.vm) qK, qD, qT.calling⟩, hrc, fun U hU hW => ⟨rfl, by rw [hU]; exact eg_cut hP isC hC, va_K.moved hW.alike hK, hD2.weaken (fun _ _ _ _ => trivial), hT9.at hS (fun q h => eg_D_in hD2 h) hU hW⟩⟩ rfl hn hsize hst (lv_room hroom) hdg hf
  intro T hT X
  rcases hr T hT X with ⟨v', st₀, t, T', L, h0, X', hL, e1, e2, hq, st⟩ | ⟨q9, st₀, t, T', L, E', ce, h0, X', hL, e1, e2, ⟨rfl, hg9, w1, hRx, hw1, hP1, hF⟩, hce, hcv, hcl, st⟩
  · exact hq.elim
  · obtain ⟨-, k2, k3⟩ := vx_keep h0 e1 hS (fun q _ h => eg_D_in hD2 h) (fun q h => eg_D_in hD2 h) hL hF
    obtain ⟨j1, j2⟩ := eg_join hP hD isC isR hC hR hnd k2 hw1 (by rw [e1]; exact hP1)
    obtain ⟨t2, a1, b1⟩ := kx w1 T'.heap (locs ++ L) q9 ce (by rw [e1, ← h0]; exact hg9) hRx hw1 j1 j2 k3 (by rw [e1]; exact hce) hcv hcl T' rfl X'
    exact ⟨t2, st.trans a1, b1⟩
/-- .. and the throw goes on to the caller -/
theorem eg_callXout {Rx' : va_W → Prop} (hx : p.tables.exec = Jvm.exec) (hb : c.code = cc) (hml : c.maxLocals = nL) (hown : s.vm.findClass own = some m.cls) (hts : ∀ w ∈ Ts, w.before args s = true) (hK : va_K D vwCl tys s) (hP : va_P D vwCl w H) (hD : va_D (eg_A w0) w0) (hw : w.map Prod.fst = w0.map Prod.fst) (hS : va_S (eg_A w0) s.heap H locs) (hT9 : eg_T (eg_A w0) s s.heap) (is : List Nat) (hC : is.map (fun i => w[i]?) = w.map some) (hnd : va_nd is = true)
    (hM : eg_MX D tys l y ws rm (.ref b :: As) w E Rx) (cw : CallW R s args own C index y bytes maxL ret ws rm 1 6 n) (hrc : ∃ cell : Cell, H[b]? = some cell ∧ cell.vm.isStatics = false ∧ s.vm.findClass C = some cell.cls)
    (hn : As.length = n) (hsize : ls.size = nL) (hst : st0 = As.reverse ++ .ref b :: rest) (hroom : (rest.map fun v => v.category).sum ≤ 8) (hdg : decode cc pc = .ok (.invokevirtual index, 3)) (hf : 0 + 1 ≤ R.cells ∧ 0 + 6 ≤ R.slots)
    (hout : ∀ x ∈ c.exceptionTable.toList, False) (hlocks : meth.locks = false) (hRx : ∀ w1, Rx w1 → Rx' w1) : W p l e R s m args below meth c H locs 0 0 (vx_MQ below (fun _ _ _ _ => False) (eg_XC D w0 E Rx') args s 1 6 (eg_A w0)) (F0 m pc ls st0) :=
  eg_callX (wr := []) hx hb hml hown hts hK hP (eg_D_same hD hw) hS hT9 is [] hC rfl hnd hM cw hrc hn hsize hst hroom hdg hf (fun w1 H1 locs1 q9 ce hg9 h1 h2 h3 _ h5 h6 h7 h8 =>
    vx_out (fun x hx => (hout x hx).elim) hlocks h6 h7 h8 (fun t ht hA => ⟨rfl, by rw [ht]; exact Nat.le_trans (Nat.add_le_add_right hS.1 1) hg9, w1, hRx w1 h1, h2.trans hw, by rw [ht]; exact h3, h5.F ht⟩) h5.2.2 (Nat.le_refl _) (Nat.le_refl _))
/-- 'throw new E("text")' in a thrower's body -/
theorem eg_throw {cls text : String} {ik is ic : Nat} {Rx' : va_W → Prop} (hx : p.tables.exec = Jvm.exec) (hb : c.code = cc) (hl : l.stackTraces = false) (hown : s.vm.findClass own = some m.cls) (hcls : Bundle.fit cls = true)
    (hk : (Cond.classLink own ik cls).before args s = true) (hini : (Cond.initialized cls).before args s = true) (hstr : ∃ sa, vk_R own is text sa s) (hat : ∀ w ∈ vx_atS own ic cls ["java/lang/RuntimeException", "java/lang/Exception"], w.before args s = true)
    (hgood : ∀ w ∈ Cond.classLink own ik cls :: Cond.initialized cls :: vx_atS own ic cls ["java/lang/RuntimeException", "java/lang/Exception"], vx_ot w = true)
    (hP : va_P D vwCl w H) (hw : w.map Prod.fst = w0.map Prod.fst) (hS : va_S (eg_A w0) s.heap H locs) (hT9 : eg_T (eg_A w0) s s.heap) (hsize : ls.size = c.maxLocals)
    (d0 : decode cc pc = .ok (.new ik, 3)) (d3 : decode cc (pc + 3) = .ok (.dup, 1)) (d4 : decode cc (pc + 4) = .ok (.ldc is, 2)) (d6 : decode cc (pc + 6) = .ok (.invokespecial ic, 3)) (d9 : decode cc (pc + 9) = .ok (.athrow, 1))
    (hout : ∀ x ∈ c.exceptionTable.toList, False) (hRframes : 5 < R.frames) (hRlocals : 82 ≤ R.locals) (hRcells : 0 + 1 ≤ R.cells) (hRslots : 0 + 6 ≤ R.slots) (hlocks : meth.locks = false) (hRx : Rx' w) :
    W p l e R s m args below meth c H locs 0 0 (vx_MQ below (fun _ _ _ _ => False) (eg_XC D w0 cls Rx') args s 1 6 (eg_A w0)) (F0 m pc ls []) := by
  obtain ⟨sa, hstr⟩ := hstr
  refine eg_throwS hx hb hl hown hcls (names := ["java/lang/RuntimeException", "java/lang/Exception"]) (by decide +kernel) hk hini hstr hat hgood hT9.1.1.1 hT9.1.1.2 hS hsize d0 d3 d4 d6 d9 (fun x hx => (hout x hx).elim) hRframes hRlocals hRcells hRslots hlocks (fun t hA hz hq => ⟨rfl, Nat.le_trans (Nat.add_le_add_right hS.1 1) hz, w, hRx, hw, hP.kept (fun k q hk => hq q.1 (hP k q hk).lt), Nat.le_trans hS.1 (Nat.le_of_succ_le hz), fun q h1 h2 => (hq q (Nat.lt_of_lt_of_le h1 hS.1)).trans (hS.2.1 q h1 h2)⟩) hS.2.2 (Nat.le_refl _) (Nat.le_refl _)
end EGC
end
section
-- BITS of a long, and counts of them
def bi (x : Int64) (i : Nat) : Bool := x.toBitVec.getLsbD i
def ol (i : Nat) : Int64 := Int64.ofBitVec (BitVec.twoPow 64 i)
theorem bi_big {x : Int64} {i : Nat} (h : 64 ≤ i) : bi x i = false := BitVec.getLsbD_of_ge _ _ h
theorem bi_lt {x : Int64} {i : Nat} (h : bi x i = true) : i < 64 := by
  rcases Nat.lt_or_ge i 64 with q | q
  · exact q
  · rw [bi_big q] at h; cases h
theorem bi_ext {x y : Int64} (h : ∀ i, i < 64 → bi x i = bi y i) : x = y := Int64.toBitVec_inj.mp (BitVec.eq_of_getLsbD_eq (fun i hi => h i hi))
theorem bi_or (x y : Int64) (i : Nat) : bi (x ||| y) i = (bi x i || bi y i) := by simp [bi]
theorem bi_and (x y : Int64) (i : Nat) : bi (x &&& y) i = (bi x i && bi y i) := by simp [bi]
theorem bi_m1 (i : Nat) : bi (-1) i = decide (i < 64) := by
  show (-1 : Int64).toBitVec.getLsbD i = _
  rw [show (-1 : Int64).toBitVec = BitVec.allOnes 64 by decide +kernel, BitVec.getLsbD_allOnes]
theorem bi_not (x : Int64) (i : Nat) : bi (x ^^^ (-1)) i = (decide (i < 64) && !bi x i) := by
  have h : bi (x ^^^ (-1)) i = (bi x i ^^ bi (-1) i) := by
    show (x ^^^ (-1)).toBitVec.getLsbD i = _
    rw [Int64.toBitVec_xor, BitVec.getLsbD_xor]; rfl
  rw [h, bi_m1]
  by_cases q : i < 64
  · simp [q]
  · rw [bi_big (Nat.le_of_not_lt q)]; simp [q]
theorem bi_0 (i : Nat) : bi 0 i = false := by simp [bi]
theorem bi_ol (i j : Nat) : bi (ol i) j = (decide (i < 64) && decide (i = j)) := by
  show (Int64.ofBitVec (BitVec.twoPow 64 i)).toBitVec.getLsbD j = _
  rw [Int64.toBitVec_ofBitVec, BitVec.getLsbD_twoPow]
theorem bi_ol1 {i j : Nat} (hi : i < 64) : bi (ol i) j = decide (i = j) := by rw [bi_ol]; simp [hi]
theorem ol_shl : ∀ i, i < 64 → (1 : Int64) <<< ((nI i).toInt64 &&& 63) = ol i := by decide +kernel
theorem has_0 {x : Int64} {i : Nat} (hi : i < 64) : x &&& ol i = 0 ↔ bi x i = false := by
  constructor
  · intro h
    have h1 : bi (x &&& ol i) i = bi 0 i := by rw [h]
    rw [bi_and, bi_ol1 hi, bi_0] at h1
    simpa using h1
  · intro h
    refine bi_ext (fun j _ => ?_)
    rw [bi_and, bi_ol1 hi, bi_0]
    by_cases q : i = j
    · subst q; rw [h]; rfl
    · simp [q]
theorem sh_c : ∀ k, k < 64 → (((nI k).toInt64.toUInt64 &&& Int64.toUInt64 63)).toNat = k := by decide +kernel
/-- the other side's way to ask for a bit -/
theorem has_1 {x : Int64} {i : Nat} (hi : i < 64) : (x.toUInt64 >>> ((nI i).toInt64.toUInt64 &&& Int64.toUInt64 63)).toInt64 &&& 1 = ol 0 &&& (if bi x i then 1 else 0) := by
  refine bi_ext (fun j hj => ?_)
  have e1 : bi 1 j = decide (0 = j) := by
    have : (1 : Int64) = ol 0 := by decide +kernel
    rw [this, bi_ol1 (by omega)]
  have e2 : bi ((x.toUInt64 >>> ((nI i).toInt64.toUInt64 &&& Int64.toUInt64 63)).toInt64) j = bi x (i + j) := by
    show ((x.toUInt64 >>> ((nI i).toInt64.toUInt64 &&& Int64.toUInt64 63)).toInt64).toBitVec.getLsbD j = x.toBitVec.getLsbD (i + j)
    have h9 : (((nI i).toInt64.toUInt64 &&& Int64.toUInt64 63).toBitVec % 64).toNat = i := by
      rw [BitVec.toNat_umod]
      have := sh_c i hi
      rw [← UInt64.toNat_toBitVec] at this
      rw [this]
      exact Nat.mod_eq_of_lt hi
    simp only [UInt64.toBitVec_toInt64, UInt64.toBitVec_shiftRight, Int64.toBitVec_toUInt64]
    rw [BitVec.ushiftRight_eq', BitVec.getLsbD_ushiftRight, h9]
  rw [bi_and, bi_and, e1, e2, bi_ol1 (by omega)]
  by_cases q : 0 = j
  · subst q
    simp only [Nat.add_zero, decide_true, Bool.and_true, Bool.true_and]
    cases bi x i
    · exact (bi_0 0).symm
    · have : (1 : Int64) = ol 0 := by decide +kernel
      rw [if_pos rfl, this, bi_ol1 (by omega)]; rfl
  · simp [q]
theorem has_1t {x : Int64} {i : Nat} (hi : i < 64) : ((x.toUInt64 >>> ((nI i).toInt64.toUInt64 &&& Int64.toUInt64 63)).toInt64 &&& 1 = 1) ↔ bi x i = true := by
  rw [has_1 hi]
  cases bi x i
  · exact ⟨fun h => absurd h (by decide +kernel), fun h => by cases h⟩
  · exact ⟨fun _ => rfl, fun _ => by decide +kernel⟩
-- counts
def ct (p : Nat → Bool) : Nat → Nat
  | 0 => 0
  | n + 1 => ct p n + (if p n then 1 else 0)
theorem ct_le (p : Nat → Bool) : ∀ n, ct p n ≤ n
  | 0 => Nat.le_refl 0
  | n + 1 => by
    have := ct_le p n
    show ct p n + (if p n then 1 else 0) ≤ n + 1
    split <;> omega
theorem ct_congr {p q : Nat → Bool} : ∀ {n : Nat}, (∀ k, k < n → p k = q k) → ct p n = ct q n
  | 0, _ => rfl
  | n + 1, h => by
    show ct p n + (if p n then 1 else 0) = ct q n + (if q n then 1 else 0)
    rw [ct_congr (fun k hk => h k (by omega)), h n (by omega)]
theorem ct_false : ∀ {p : Nat → Bool} (n m : Nat), (∀ k, n ≤ k → p k = false) → ct p (n + m) = ct p n
  | _, _, 0, _ => rfl
  | p, n, m + 1, h => by
    show ct p (n + m) + (if p (n + m) then 1 else 0) = ct p n
    rw [ct_false n m h, h (n + m) (by omega)]
    rfl
theorem ct_to {p : Nat → Bool} {n m : Nat} (hnm : n ≤ m) (h : ∀ k, n ≤ k → p k = false) : ct p m = ct p n := by
  obtain ⟨d, rfl⟩ : ∃ d, m = n + d := ⟨m - n, by omega⟩
  exact ct_false n d h
theorem ct_new {p q : Nat → Bool} : ∀ n, ct (fun k => p k || q k) n = ct p n + ct (fun k => q k && !p k) n
  | 0 => rfl
  | n + 1 => by
    show ct (fun k => p k || q k) n + (if (p n || q n) then 1 else 0) = ct p n + (if p n then 1 else 0) + (ct (fun k => q k && !p k) n + (if (q n && !p n) then 1 else 0))
    rw [ct_new n]
    cases p n <;> cases q n <;> simp <;> omega
theorem ct_split (p : Nat → Bool) (m : Nat) : ∀ n, ct p (m + n) = ct p m + ct (fun k => p (m + k)) n
  | 0 => rfl
  | n + 1 => by
    show ct p (m + n) + (if p (m + n) then 1 else 0) = ct p m + (ct (fun k => p (m + k)) n + (if p (m + n) then 1 else 0))
    rw [ct_split p m n]; omega
/-- how many bits are set -/
def pc64 (x : Int64) : Nat := ct (bi x) 64
end
section
-- THE ORDER OF THE LETTERS: laid one behind the other; the tree's walk; rows that hold a list
def NN : Int32 := -1
def ev (n : Nat) (x : Int32) : Bool := !(decide (x < 0)) && decide (x < nI n)
theorem ev_nI {n i : Nat} (hn : n < 2 ^ 31) (hi : i < n) : ev n (nI i) = true := by
  simp only [ev, Bool.and_eq_true, Bool.not_eq_true', decide_eq_false_iff_not, decide_eq_true_eq]
  exact ⟨nI_pos (by omega), nI_lt hi hn⟩
theorem ev_of {n : Nat} {x : Int32} (hn : n < 2 ^ 31) (h : ev n x = true) : ∃ i, i < n ∧ x = nI i := by
  simp only [ev, Bool.and_eq_true, Bool.not_eq_true', decide_eq_false_iff_not, decide_eq_true_eq] at h
  obtain ⟨j, hj, rfl⟩ := nI_of h.1
  exact ⟨j, (nI_ltI hj hn).mp h.2, rfl⟩
theorem ev_m1 (n : Nat) : ev n (-1) = false := by
  simp [ev]
theorem nI_m1 {i : Nat} (h : i < 2 ^ 31) : ¬ nI i = -1 := by
  intro q
  have h1 := nI_pos h
  rw [q] at h1
  exact h1 (by decide)
theorem nI_in1 {i j : Nat} (hi : i < 2 ^ 31) (hj : j < 2 ^ 31) (h : nI i = nI j) : i = j := (nI_eq hi hj).mp h
/-- laid right behind its letter, or at the beginning -/
def insA (t : Int32) (k : Nat) (L : List Nat) : List Nat := if t = -1 then k :: L else L.flatMap (fun x => if nI x = t then [x, k] else [x])
def lay (P : Nat → Bool) (tg : Nat → Int32) : Nat → List Nat
  | 0 => []
  | k + 1 => if P k then insA (tg k) k (lay P tg k) else lay P tg k
/-- a set of letters that has with each the one at which it hangs -/
def hang (P : Nat → Bool) (tg : Nat → Int32) (n : Nat) : Prop := ∀ k, k < n → P k = true → tg k = -1 ∨ ∃ t, t < k ∧ tg k = nI t ∧ P t = true
theorem hang_le {P : Nat → Bool} {tg : Nat → Int32} {n m : Nat} (h : hang P tg n) (hm : m ≤ n) : hang P tg m := fun k hk => h k (by omega)
theorem insA_mem {t : Int32} {k x : Nat} {L : List Nat} (h : x ∈ insA t k L) : x = k ∨ x ∈ L := by
  unfold insA at h
  split at h
  · exact List.mem_cons.mp h
  · obtain ⟨a, ha, hx⟩ := List.mem_flatMap.mp h
    split at hx
    · rcases List.mem_cons.mp hx with rfl | hx
      · exact Or.inr ha
      · exact Or.inl (List.mem_singleton.mp hx)
    · rw [List.mem_singleton.mp hx]; exact Or.inr ha
theorem insA_old {t : Int32} {k x : Nat} {L : List Nat} (h : x ∈ L) : x ∈ insA t k L := by
  unfold insA
  split
  · exact List.mem_cons_of_mem _ h
  · refine List.mem_flatMap.mpr ⟨x, h, ?_⟩
    split <;> exact List.mem_cons_self
theorem insA_new {t : Int32} {k : Nat} {L : List Nat} (h : t = -1 ∨ ∃ x, x ∈ L ∧ t = nI x) : k ∈ insA t k L := by
  unfold insA
  split
  · exact List.mem_cons_self
  · rename_i q
    rcases h with h | ⟨x, hx, h⟩
    · exact absurd h q
    · refine List.mem_flatMap.mpr ⟨x, hx, ?_⟩
      rw [if_pos h.symm]
      exact List.mem_cons_of_mem _ List.mem_cons_self
theorem lay_mem {P : Nat → Bool} {tg : Nat → Int32} : ∀ {n x : Nat}, x ∈ lay P tg n → x < n ∧ P x = true
  | 0, _, h => by cases h
  | n + 1, x, h => by
    unfold lay at h
    split at h
    · rename_i q
      rcases insA_mem h with rfl | h
      · exact ⟨by omega, q⟩
      · have := lay_mem h; exact ⟨by omega, this.2⟩
    · have := lay_mem h; exact ⟨by omega, this.2⟩
theorem lay_in {P : Nat → Bool} {tg : Nat → Int32} : ∀ {n x : Nat}, hang P tg n → x < n → P x = true → x ∈ lay P tg n
  | 0, _, _, h, _ => absurd h (Nat.not_lt_zero _)
  | n + 1, x, hc, hx, hp => by
    unfold lay
    have hc' := hang_le hc (Nat.le_succ n)
    by_cases q : x = n
    · subst q
      rw [if_pos hp]
      refine insA_new ?_
      rcases hc x (by omega) hp with h | ⟨t, h1, h2, h3⟩
      · exact Or.inl h
      · exact Or.inr ⟨t, lay_in hc' h1 h3, h2⟩
    · have := lay_in hc' (by omega : x < n) hp
      split
      · exact insA_old this
      · exact this
theorem flat_none {t k : Nat} (g : Nat → List Nat) : ∀ {L : List Nat}, (∀ x, x ∈ L → g x = [x]) → L.flatMap g = L
  | [], _ => rfl
  | x :: L, h => by
    rw [List.flatMap_cons, h x List.mem_cons_self, flat_none (t := t) (k := k) g (fun y hy => h y (List.mem_cons_of_mem _ hy))]
    rfl
/-- the two halves of a list about the place of a letter -/
theorem insA_at {t k : Nat} (ht : t < 2 ^ 31) {L1 L2 : List Nat} (h : ∀ x, x ∈ L1 ++ L2 → x < 2 ^ 31 ∧ x ≠ t) : insA (nI t) k (L1 ++ t :: L2) = L1 ++ t :: k :: L2 := by
  unfold insA
  rw [if_neg (nI_m1 ht), List.flatMap_append, List.flatMap_cons, if_pos rfl]
  have e : ∀ x, x ∈ L1 ++ L2 → (if nI x = nI t then [x, k] else [x]) = [x] := fun x hx => if_neg (fun q => (h x hx).2 (nI_in1 (h x hx).1 ht q))
  rw [flat_none (t := t) (k := k) _ (fun x hx => e x (List.mem_append_left _ hx)), flat_none (t := t) (k := k) _ (fun x hx => e x (List.mem_append_right _ hx))]
  rfl
theorem nodup_split {t : Nat} {L : List Nat} (h : t ∈ L) (hn : L.Nodup) : ∃ L1 L2, L = L1 ++ t :: L2 ∧ t ∉ L1 ∧ t ∉ L2 := by
  obtain ⟨L1, L2, rfl⟩ := List.append_of_mem h
  rw [List.nodup_append] at hn
  obtain ⟨_, h2, h3⟩ := hn
  exact ⟨L1, L2, rfl, fun q => h3 t q t List.mem_cons_self rfl, (List.nodup_cons.mp h2).1⟩
theorem lay_nodup {P : Nat → Bool} {tg : Nat → Int32} : ∀ {n : Nat}, n ≤ 2 ^ 31 → hang P tg n → (lay P tg n).Nodup
  | 0, _, _ => List.nodup_nil
  | n + 1, hn, hc => by
    have ih := lay_nodup (by omega : n ≤ 2 ^ 31) (hang_le hc (Nat.le_succ n))
    unfold lay
    split
    · rename_i q
      have hnn : n ∉ lay P tg n := fun h => by have := (lay_mem h).1; omega
      rcases hc n (by omega) q with h | ⟨t, h1, h2, h3⟩
      · unfold insA
        rw [if_pos h]
        exact List.nodup_cons.mpr ⟨hnn, ih⟩
      · obtain ⟨L1, L2, e, g1, g2⟩ := nodup_split (lay_in (hang_le hc (Nat.le_succ n)) h1 h3) ih
        have bi : ∀ x, x ∈ L1 ++ L2 → x < 2 ^ 31 ∧ x ≠ t := by
          intro x hx
          have hm : x ∈ lay P tg n := by
            rw [e]
            rcases List.mem_append.mp hx with h | h
            · exact List.mem_append_left _ h
            · exact List.mem_append_right _ (List.mem_cons_of_mem _ h)
          refine ⟨by have := (lay_mem hm).1; omega, fun q => ?_⟩
          subst q
          rcases List.mem_append.mp hx with h | h
          · exact g1 h
          · exact g2 h
        rw [h2, e, insA_at (by omega) bi]
        rw [e] at ih hnn
        have hp : (L1 ++ t :: n :: L2).Perm (n :: (L1 ++ t :: L2)) := by
          have := (List.perm_middle (a := n) (l₁ := L1 ++ [t]) (l₂ := L2))
          simpa using this
        exact hp.nodup_iff.mpr (List.nodup_cons.mpr ⟨hnn, ih⟩)
    · exact ih
/-- fewer letters, laid alone, stand as they do among all -/
theorem lay_filter {P Q : Nat → Bool} {tg : Nat → Int32} : ∀ {n : Nat}, n ≤ 2 ^ 31 → hang Q tg n → (∀ k, k < n → Q k = true → P k = true) → lay Q tg n = (lay P tg n).filter Q
  | 0, _, _, _ => rfl
  | n + 1, hn, hc, hs => by
    have ih := lay_filter (P := P) (by omega : n ≤ 2 ^ 31) (hang_le hc (Nat.le_succ n)) (fun k hk => hs k (by omega))
    unfold lay
    by_cases q : Q n = true
    · rw [if_pos q, if_pos (hs n (by omega) q), ih]
      rcases hc n (by omega) q with h | ⟨t, h1, h2, h3⟩
      · unfold insA
        rw [if_pos h, if_pos h, List.filter_cons_of_pos q]
      · unfold insA
        rw [h2, if_neg (nI_m1 (by omega)), if_neg (nI_m1 (by omega))]
        have key : ∀ L : List Nat, (∀ x, x ∈ L → x < n) → (L.filter Q).flatMap (fun x => if nI x = nI t then [x, n] else [x]) = (L.flatMap (fun x => if nI x = nI t then [x, n] else [x])).filter Q := by
          intro L
          induction L with
          | nil => intro _; rfl
          | cons x L ihL =>
            intro hL
            have ihL := ihL (fun y hy => hL y (List.mem_cons_of_mem _ hy))
            have hxn := hL x List.mem_cons_self
            rw [List.flatMap_cons, List.filter_append, ← ihL]
            by_cases qx : Q x = true
            · rw [List.filter_cons_of_pos qx, List.flatMap_cons]
              congr 1
              split
              · rw [List.filter_cons_of_pos qx, List.filter_cons_of_pos q]; rfl
              · rw [List.filter_cons_of_pos qx]; rfl
            · rw [List.filter_cons_of_neg qx]
              have : ¬ nI x = nI t := fun e => qx (by rw [nI_in1 (by omega) (by omega) e]; exact h3)
              rw [if_neg this, List.filter_cons_of_neg qx]
              rfl
        exact key _ (fun x hx => (lay_mem hx).1)
    · rw [if_neg q]
      split
      · rw [ih]
        have key : ∀ L : List Nat, (insA (tg n) n L).filter Q = L.filter Q := by
          intro L
          unfold insA
          split
          · rw [List.filter_cons_of_neg q]
          · induction L with
            | nil => rfl
            | cons x L ihL =>
              rw [List.flatMap_cons, List.filter_append, ihL]
              have : (if nI x = tg n then [x, n] else [x]).filter Q = [x].filter Q := by
                split
                · rw [List.filter_cons, List.filter_cons_of_neg q, List.filter_cons]
                · rfl
              rw [this, ← List.filter_append]
              rfl
        rw [key]
      · exact ih
theorem lay_congr {P Q : Nat → Bool} {tg tg' : Nat → Int32} : ∀ {n : Nat}, (∀ k, k < n → P k = Q k ∧ tg k = tg' k) → lay P tg n = lay Q tg' n
  | 0, _ => rfl
  | n + 1, h => by
    unfold lay
    rw [(h n (by omega)).1, (h n (by omega)).2, lay_congr (fun k hk => h k (by omega))]
/-- a row holds a list from its place 0 on -/
def holds (f : Nat → Int32) (L : List Nat) : Prop := ∀ (j x : Nat), L[j]? = some x → f j = nI x
theorem holds_nil (f : Nat → Int32) : holds f [] := fun j x h => by simp at h
theorem holds_push {f : Nat → Int32} {L : List Nat} {k : Nat} (h : holds f L) : holds (upd f L.length (nI k)) (L ++ [k]) := by
  intro j x hx
  rcases Nat.lt_or_ge j L.length with q | q
  · rw [List.getElem?_append_left q] at hx
    rw [pk_un (by omega)]
    exact h j x hx
  · rw [List.getElem?_append_right q] at hx
    have : j = L.length := by
      rcases Nat.lt_or_ge 0 (j - L.length) with z | z
      · rw [List.getElem?_eq_none (by simp; omega)] at hx; cases hx
      · omega
    subst this
    rw [Nat.sub_self] at hx
    cases hx
    rw [pk_us]
end
section
-- THE TREE of the letters, its walk by a row of waiting ones; the chain; a row into which a letter is put
def Tr (n : Nat) (fh nb : Nat → Int32) : Nat → Int32 → List Nat → Prop
  | 0, x, L => x = -1 ∧ L = []
  | f + 1, x, L => (x = -1 ∧ L = []) ∨ ∃ (e : Nat) (A B : List Nat), x = nI e ∧ e < n ∧ L = e :: (A ++ B) ∧ Tr n fh nb f (fh e) A ∧ Tr n fh nb f (nb e) B
theorem Tr_succ {n : Nat} {fh nb : Nat → Int32} : ∀ (f : Nat) (x : Int32) (L : List Nat), Tr n fh nb f x L → Tr n fh nb (f + 1) x L
  | 0, _, _, h => Or.inl h
  | f + 1, _, _, h => by
    rcases h with h | ⟨e, A, B, h1, h2, h3, h4, h5⟩
    · exact Or.inl h
    · exact Or.inr ⟨e, A, B, h1, h2, h3, Tr_succ f _ _ h4, Tr_succ f _ _ h5⟩
theorem Tr_le {n : Nat} {fh nb : Nat → Int32} {f : Nat} {x : Int32} {L : List Nat} (h : Tr n fh nb f x L) : ∀ d, Tr n fh nb (f + d) x L
  | 0 => h
  | d + 1 => Tr_succ _ _ _ (Tr_le h d)
/-- new events, and rows that stay at the old ones -/
theorem Tr_keep {n n' : Nat} {fh nb fh' nb' : Nat → Int32} (hn : n ≤ n') (h : ∀ e, e < n → fh' e = fh e ∧ nb' e = nb e) : ∀ (f : Nat) (x : Int32) (L : List Nat), Tr n fh nb f x L → Tr n' fh' nb' f x L
  | 0, _, _, q => q
  | f + 1, _, _, q => by
    rcases q with q | ⟨e, A, B, h1, h2, h3, h4, h5⟩
    · exact Or.inl q
    · refine Or.inr ⟨e, A, B, h1, by omega, h3, ?_, ?_⟩
      · rw [(h e h2).1]; exact Tr_keep hn h f _ _ h4
      · rw [(h e h2).2]; exact Tr_keep hn h f _ _ h5
theorem insA_flat {t k : Nat} (ht : t < 2 ^ 31) (L : List Nat) : insA (nI t) k L = L.flatMap (fun x => if nI x = nI t then [x, k] else [x]) := by
  unfold insA
  rw [if_neg (nI_m1 ht)]
theorem Tr_hang {n t : Nat} {fh nb fh' nb' : Nat → Int32} (hn : n < 2 ^ 31) (ht : t < n) (h1 : ∀ e, e < n → e ≠ t → fh' e = fh e) (h2 : ∀ e, e < n → nb' e = nb e) (h3 : fh' t = nI n) (h4 : fh' n = -1) (h5 : nb' n = fh t) :
    ∀ (f : Nat) (x : Int32) (L : List Nat), Tr n fh nb f x L → Tr (n + 1) fh' nb' (f + f) x (insA (nI t) n L) := by
  intro f
  induction f with
  | zero =>
    intro x L h
    obtain ⟨h, rfl⟩ := h
    exact ⟨h, by rw [insA_flat (by omega)]; rfl⟩
  | succ f ih =>
    intro x L h
    rcases h with ⟨h, rfl⟩ | ⟨e, A, B, g1, g2, g3, g4, g5⟩
    · have : Tr (n + 1) fh' nb' 0 x (insA (nI t) n []) := ⟨h, by rw [insA_flat (by omega)]; rfl⟩
      have := Tr_le this (f + 1 + (f + 1))
      rwa [Nat.zero_add] at this
    · have i4 := ih _ _ g4
      have i5 := ih _ _ g5
      rw [insA_flat (by omega)] at i4 i5 ⊢
      rw [g3, List.flatMap_cons, List.flatMap_append]
      rw [show f + 1 + (f + 1) = (f + f + 1) + 1 by omega]
      by_cases q : e = t
      · subst q
        rw [if_pos rfl]
        refine Or.inr ⟨e, n :: ([] ++ A.flatMap (fun x => if nI x = nI e then [x, n] else [x])), B.flatMap (fun x => if nI x = nI e then [x, n] else [x]), g1, by omega, by simp, ?_, ?_⟩
        · rw [h3]
          exact Or.inr ⟨n, [], A.flatMap (fun x => if nI x = nI e then [x, n] else [x]), rfl, by omega, rfl, (by
            rw [h4]
            have : Tr (n + 1) fh' nb' 0 (-1) [] := ⟨rfl, rfl⟩
            have := Tr_le this (f + f)
            rwa [Nat.zero_add] at this), by rw [h5]; exact i4⟩
        · rw [h2 e g2]
          exact Tr_succ _ _ _ i5
      · rw [if_neg (fun z => q (nI_in1 (by omega) (by omega) z))]
        refine Or.inr ⟨e, A.flatMap (fun x => if nI x = nI t then [x, n] else [x]), B.flatMap (fun x => if nI x = nI t then [x, n] else [x]), g1, by omega, by simp, ?_, ?_⟩
        · rw [h1 e g2 q]; exact Tr_succ _ _ _ i4
        · rw [h2 e g2]; exact Tr_succ _ _ _ i5
/-- the letters that wait, the next one first; what is still to come of them -/
def St (n : Nat) (fh nb : Nat → Int32) : List Nat → List Nat → Prop
  | [], R => R = []
  | e :: S, R => ∃ (f : Nat) (A R' : List Nat), e < n ∧ Tr n fh nb f (nI e) A ∧ R = A ++ R' ∧ St n fh nb S R'
theorem St_pop {n : Nat} {fh nb : Nat → Int32} {e : Nat} {S R : List Nat} (hn : n ≤ 2 ^ 31) (h : St n fh nb (e :: S) R) : ∃ (f : Nat) (A B R' : List Nat), e < n ∧ R = e :: (A ++ (B ++ R')) ∧ Tr n fh nb f (fh e) A ∧ Tr n fh nb f (nb e) B ∧ St n fh nb S R' := by
  obtain ⟨f, A, R', h1, h2, h3, h4⟩ := h
  cases f with
  | zero => exact absurd h2.1 (nI_m1 (by omega))
  | succ f =>
    rcases h2 with h2 | ⟨e', A', B', g1, g2, g3, g4, g5⟩
    · exact absurd h2.1 (nI_m1 (by omega))
    · have := nI_in1 (by omega) (by omega) g1
      subst this
      exact ⟨f, A', B', R', h1, by rw [h3, g3]; simp, g4, g5, h4⟩
theorem St_none {n : Nat} {fh nb : Nat → Int32} {S R A : List Nat} {f : Nat} {x : Int32} (hn : n < 2 ^ 31) (h : St n fh nb S R) (ht : Tr n fh nb f x A) (hx : ev n x = false) : St n fh nb S (A ++ R) := by
  cases f with
  | zero => rw [ht.2]; exact h
  | succ f =>
    rcases ht with ht | ⟨e, _, _, g1, g2, _⟩
    · rw [ht.2]; exact h
    · rw [g1, ev_nI hn g2] at hx; cases hx
theorem St_push {n : Nat} {fh nb : Nat → Int32} {S R A : List Nat} {f e : Nat} (he : e < n) (h : St n fh nb S R) (ht : Tr n fh nb f (nI e) A) : St n fh nb (e :: S) (A ++ R) := ⟨f, A, R, he, ht, rfl, h⟩
theorem St_len {n : Nat} {fh nb : Nat → Int32} (hn : n ≤ 2 ^ 31) : ∀ (S R : List Nat), St n fh nb S R → S.length ≤ R.length
  | [], _, _ => Nat.zero_le _
  | e :: S, R, h => by
    obtain ⟨f, A, B, R', h1, h2, h3, h4, h5⟩ := St_pop hn h
    have := St_len hn S R' h5
    rw [h2]
    simp only [List.length_cons, List.length_append]
    omega
/-- the row of those that wait -/
def stk (wt : Nat → Int32) : List Nat → Prop
  | [] => True
  | e :: S => wt S.length = nI e ∧ stk wt S
theorem stk_keep {wt : Nat → Int32} {k : Nat} {v : Int32} : ∀ (S : List Nat), S.length ≤ k → stk wt S → stk (upd wt k v) S
  | [], _, _ => trivial
  | e :: S, hk, h => by
    have hk' : S.length + 1 ≤ k := hk
    exact ⟨by rw [pk_un (by omega)]; exact h.1, stk_keep S (by omega) h.2⟩
theorem stk_push {wt : Nat → Int32} {e : Nat} {S : List Nat} (h : stk wt S) : stk (upd wt S.length (nI e)) (e :: S) := ⟨pk_us, stk_keep S (Nat.le_refl _) h⟩
/-- a chain of letters -/
def Ch (bh : Nat → Int32) : Int32 → List Nat → Prop
  | x, [] => x = -1
  | x, e :: L => x = nI e ∧ Ch bh (bh e) L
theorem Ch_keep {bh bh' : Nat → Int32} : ∀ (x : Int32) (L : List Nat), (∀ e, e ∈ L → bh' e = bh e) → Ch bh x L → Ch bh' x L
  | _, [], _, h => h
  | _, e :: L, hk, h => ⟨h.1, by rw [hk e List.mem_cons_self]; exact Ch_keep _ L (fun y hy => hk y (List.mem_cons_of_mem _ hy)) h.2⟩
theorem Ch_hang {t k : Nat} {bh bh' : Nat → Int32} (hk : k < 2 ^ 31) (ht : t < 2 ^ 31) (htk : t ≠ k) (h1 : ∀ e, e ≠ t → e ≠ k → bh' e = bh e) (h2 : bh' t = nI k) (h3 : bh' k = bh t) :
    ∀ (x : Int32) (L : List Nat), L.Nodup → k ∉ L → (∀ e, e ∈ L → e < 2 ^ 31) → Ch bh x L → Ch bh' x (insA (nI t) k L)
  | x, [], _, _, _, h => by rw [insA_flat ht]; exact h
  | x, e :: L, hn, hkL, hl, h => by
    obtain ⟨g1, g2⟩ := List.nodup_cons.mp hn
    have gk : k ∉ L := fun q => hkL (List.mem_cons_of_mem _ q)
    have ek : e ≠ k := fun q => hkL (by rw [q]; exact List.mem_cons_self)
    have ih := fun x => Ch_hang hk ht htk h1 h2 h3 x L g2 gk (fun y hy => hl y (List.mem_cons_of_mem _ hy))
    rw [insA_flat ht, List.flatMap_cons]
    by_cases q : e = t
    · subst q
      rw [if_pos rfl, flat_none (t := e) (k := k) _ (fun y hy => if_neg (fun z => g1 (by rw [← nI_in1 (hl y (List.mem_cons_of_mem _ hy)) ht z]; exact hy)))]
      refine ⟨h.1, ?_⟩
      show Ch bh' (bh' e) (k :: L)
      refine ⟨h2, ?_⟩
      rw [h3]
      exact Ch_keep _ L (fun y hy => h1 y (fun z => g1 (z ▸ hy)) (fun z => gk (z ▸ hy))) h.2
    · rw [if_neg (fun z => q (nI_in1 (hl e List.mem_cons_self) ht z))]
      refine ⟨h.1, ?_⟩
      rw [h1 e q ek]
      have := ih (bh e) h.2
      rw [insA_flat ht] at this
      exact this
/-- a row into which a letter is put -/
theorem holds_ins {f g : Nat → Int32} {k : Nat} {L1 L2 : List Nat} (h : holds f (L1 ++ L2)) (h1 : ∀ i, i < L1.length → g i = f i) (h2 : g L1.length = nI k) (h3 : ∀ i, L1.length < i → i ≤ (L1 ++ L2).length → g i = f (i - 1)) : holds g (L1 ++ k :: L2) := by
  intro j x hx
  rcases Nat.lt_or_ge j L1.length with q | q
  · rw [List.getElem?_append_left q] at hx
    rw [h1 j q]
    exact h j x (by rw [List.getElem?_append_left q]; exact hx)
  · rw [List.getElem?_append_right q] at hx
    rcases Nat.lt_or_ge L1.length j with z | z
    · have e : j - L1.length = (j - 1 - L1.length) + 1 := by omega
      rw [e, List.getElem?_cons_succ] at hx
      have hl : j - 1 - L1.length < L2.length := (List.getElem?_eq_some_iff.mp hx).1
      rw [h3 j z (by simp only [List.length_append]; omega)]
      exact h (j - 1) x (by rw [List.getElem?_append_right (by omega)]; exact hx)
    · have e : j = L1.length := by omega
      subst e
      rw [Nat.sub_self] at hx
      cases hx
      exact h2
theorem insA_front {k : Nat} {L : List Nat} : insA (-1) k L = k :: L := by unfold insA; rw [if_pos rfl]
end
section
-- WHAT A STATE IS: the cells of an EditGraph and of its reference, by what they hold
abbrev tyL (cI cJ : ClassId) : List (ClassId × FieldType) := [(cI, .int), (cJ, .long)]
def wX (q : Nat → Nat) (cI cJ : ClassId) (n : Int32) (mk lt tg : Nat → Int32) (pa an la kn : Nat → Int64) (fb : Int32) (fh nb te wt bh : Nat → Int32) : va_W :=
  [(q 0, .inr (0, [.int n, .ref (q 1), .ref (q 2), .ref (q 3), .ref (q 4), .ref (q 5), .ref (q 6), .ref (q 7), .int fb, .ref (q 8), .ref (q 9), .ref (q 10), .ref (q 11), .ref (q 12)])),
   (q 1, .inl (cI, 60, .inl mk)), (q 2, .inl (cI, 60, .inl lt)), (q 3, .inl (cI, 60, .inl tg)), (q 4, .inl (cJ, 60, .inr (.inl pa))), (q 5, .inl (cJ, 60, .inr (.inl an))), (q 6, .inl (cJ, 60, .inr (.inl la))), (q 7, .inl (cJ, 4, .inr (.inl kn))),
   (q 8, .inl (cI, 60, .inl fh)), (q 9, .inl (cI, 60, .inl nb)), (q 10, .inl (cI, 60, .inl te)), (q 11, .inl (cI, 60, .inl wt)), (q 12, .inl (cI, 60, .inl bh))]
def wM (q : Nat → Nat) (cI cJ : ClassId) (n : Int32) (mk lt tg : Nat → Int32) (pa an kn : Nat → Int64) (row : Nat → Int32) (len thr : Int32) : va_W :=
  [(q 0, .inr (1, [.ref (q 1), .ref (q 2), .ref (q 3), .ref (q 4), .ref (q 5), .int n, .ref (q 6), .ref (q 7), .int len, .int thr])),
   (q 1, .inl (cI, 60, .inl mk)), (q 2, .inl (cI, 60, .inl lt)), (q 3, .inl (cI, 60, .inl tg)), (q 4, .inl (cJ, 60, .inr (.inl pa))), (q 5, .inl (cJ, 60, .inr (.inl an))), (q 6, .inl (cJ, 4, .inr (.inl kn))), (q 7, .inl (cI, 60, .inl row))]
theorem wX_ad {q : Nat → Nat} {cI cJ : ClassId} {n n' fb fb' : Int32} {mk lt tg mk' lt' tg' fh nb te wt bh fh' nb' te' wt' bh' : Nat → Int32} {pa an la kn pa' an' la' kn' : Nat → Int64} : (wX q cI cJ n' mk' lt' tg' pa' an' la' kn' fb' fh' nb' te' wt' bh').map Prod.fst = (wX q cI cJ n mk lt tg pa an la kn fb fh nb te wt bh).map Prod.fst := rfl
theorem wM_ad {q : Nat → Nat} {cI cJ : ClassId} {n n' len len' thr thr' : Int32} {mk lt tg mk' lt' tg' row row' : Nat → Int32} {pa an kn pa' an' kn' : Nat → Int64} : (wM q cI cJ n' mk' lt' tg' pa' an' kn' row' len' thr').map Prod.fst = (wM q cI cJ n mk lt tg pa an kn row len thr).map Prod.fst := rfl
end
section
-- WHAT THE CLASS'S READERS ANSWER, as functions of what the cells hold
def ins (lt : Nat → Int32) (i : Nat) : Bool := !(decide (lt i = -1))
def cl (x : Int32) : Nat := x.toNatClampNeg
theorem cl_nI {i : Nat} (h : i < 2 ^ 31) : cl (nI i) = i := nI_clamp h
theorem eb_1 {b : Bool} (h : b = true) : nI 1 = eb b := by subst h; decide +kernel
theorem eb_z {b : Bool} (h : b = false) : nI 0 = eb b := by subst h; decide +kernel
theorem ins_t {lt : Nat → Int32} {i : Nat} (h : ¬ lt i = -1) : ins lt i = true := by simp [ins, h]
theorem ins_f {lt : Nat → Int32} {i : Nat} (h : lt i = -1) : ins lt i = false := by simp [ins, h]
theorem ins_ne {lt : Nat → Int32} {i : Nat} (h : ins lt i = true) : ¬ lt i = -1 := by simpa [ins] using h
theorem ins_eq {lt : Nat → Int32} {i : Nat} (h : ins lt i = false) : lt i = -1 := by simpa [ins] using h
def hO (pa : Nat → Int64) (v : Int64) : Nat → Int64
  | 0 => 0
  | k + 1 => if bi v k = true then hO pa v k ||| pa k else hO pa v k
def hdX (pa : Nat → Int64) (v : Int64) (n : Nat) : Int64 := v &&& (hO pa v n ^^^ (-1))
def rel (an la : Nat → Int64) (i : Nat) : Int64 := (an i ||| ol i) ||| la i
def cO (an la : Nat → Int64) (v : Int64) : Nat → Int64
  | 0 => 0
  | k + 1 => if bi v k = true ∧ v &&& (rel an la k ^^^ (-1)) = 0 then cO an la v k ||| ol k else cO an la v k
def sI (lt : Nat → Int32) (v : Int64) : Nat → Int64
  | 0 => 0
  | k + 1 => if bi v k = true ∧ ins lt k = true then sI lt v k ||| ol k else sI lt v k
def sG (lt tg : Nat → Int32) (v : Int64) : Nat → Int64
  | 0 => 0
  | k + 1 => if bi v k = true ∧ ins lt k = false then sG lt tg v k ||| ol (cl (tg k)) else sG lt tg v k
def sdX (lt tg : Nat → Int32) (v : Int64) (n : Nat) : Int64 := sI lt v n &&& (sG lt tg v n ^^^ (-1))
def cR (n : Nat) (mk lt tg : Nat → Int32) (pa : Nat → Int64) (i : Nat) : Bool := ins lt i && (ev n (tg i) && (decide (pa i = ol (cl (tg i))) && decide (mk i = mk (cl (tg i)))))
def cnX (an la : Nat → Int64) (v : Int64) : Nat → Nat
  | 0 => 0
  | k + 1 => if bi v k = true then cnX an la v k + pc64 (v &&& (rel an la k ^^^ (-1))) else cnX an la v k
def tpX (an : Nat → Int64) (r : Int64) : Nat → Int64
  | 0 => 0
  | k + 1 => if bi r k = true then an k ||| ol k else tpX an r k
def rnX (n : Nat) (mk lt tg : Nat → Int32) (pa : Nat → Int64) (v : Int64) : Nat → Nat
  | 0 => 0
  | k + 1 => if bi v k = true ∧ cR n mk lt tg pa k = false then rnX n mk lt tg pa v k + 1 else rnX n mk lt tg pa v k
def mL (la : Nat → Int64) (v : Int64) (j k : Nat) : Nat → Int64 := fun e => if e < k ∧ bi v e = true then la e ||| ol j else la e
theorem ev_f1 {n : Nat} {x : Int32} (h : x < 0) : ev n x = false := by simp [ev, h]
theorem ev_f2 {n : Nat} {x : Int32} (h : nI n ≤ x) : ev n x = false := by
  have : ¬ x < nI n := by rw [Int32.lt_iff_toInt_lt]; rw [Int32.le_iff_toInt_le] at h; omega
  simp [ev, this]
theorem ev_t {n : Nat} {x : Int32} (h1 : ¬ x < 0) (h2 : ¬ nI n ≤ x) : ev n x = true := by
  have : x < nI n := by rw [Int32.lt_iff_toInt_lt]; rw [Int32.le_iff_toInt_le] at h2; omega
  simp [ev, h1, this]
theorem has_0n {x : Int64} {i : Nat} (hi : i < 64) (h : ¬ x &&& ol i = 0) : bi x i = true := by
  cases q : bi x i
  · exact absurd ((has_0 hi).mpr q) h
  · rfl
theorem mL_0 (la : Nat → Int64) (v : Int64) (j : Nat) : mL la v j 0 = la := by
  funext e
  simp [mL]
theorem mL_t {la : Nat → Int64} {v : Int64} {j i : Nat} (h : bi v i = true) : vp_updL (mL la v j i) i (mL la v j i i ||| ol j) = mL la v j (i + 1) := by
  funext e
  unfold vp_updL mL
  by_cases q : e = i
  · subst q
    simp [h]
  · rw [if_neg q]
    by_cases z : e < i
    · simp [z, show e < i + 1 by omega]
    · simp [z, show ¬ e < i + 1 by omega]
theorem mL_f {la : Nat → Int64} {v : Int64} {j i : Nat} (h : bi v i = false) : mL la v j i = mL la v j (i + 1) := by
  funext e
  unfold mL
  by_cases q : e = i
  · subst q
    simp [h]
  · by_cases z : e < i
    · simp [z, show e < i + 1 by omega]
    · simp [z, show ¬ e < i + 1 by omega]
end
section
-- WHAT HOLDS OF EVERY STATE, and the text of a version
def gO (lt tg : Nat → Int32) (v : Int64) : Nat → Int32 → Bool
  | 0, _ => false
  | k + 1, x => gO lt tg v k x || (bi v k && (!ins lt k && decide (tg k = x)))
def vI (lt : Nat → Int32) (v : Int64) : Nat → Bool := fun k => bi v k && ins lt k
def tx (n : Nat) (lt tg : Nat → Int32) (v : Int64) : List Nat := (lay (vI lt v) tg n).filter (fun i => !gO lt tg v n (nI i))
def Inv (n : Nat) (lt tg : Nat → Int32) (an kn : Nat → Int64) : Prop :=
  n ≤ 60 ∧ (∀ a, a < 4 → ∀ i, bi (kn a) i = true → i < n) ∧ (∀ e, e < n → ∀ i, bi (an e) i = true → i < e) ∧
  (∀ a, a < 4 → ∀ e, bi (kn a) e = true → ∀ i, bi (an e) i = true → bi (kn a) i = true) ∧
  (∀ e, e < n → ∀ d, bi (an e) d = true → ∀ i, bi (an d) i = true → bi (an e) i = true) ∧
  (∀ e, e < n → ins lt e = true → tg e = -1 ∨ ∃ t, t < e ∧ tg e = nI t ∧ ins lt t = true ∧ bi (an e) t = true) ∧
  (∀ e, e < n → ins lt e = false → ∃ t, t < e ∧ tg e = nI t ∧ ins lt t = true ∧ bi (an e) t = true)
/-- a version: with each event its ancestors -/
def vok (n : Nat) (an : Nat → Int64) (v : Int64) : Prop := (∀ i, bi v i = true → i < n) ∧ ∀ e, bi v e = true → ∀ i, bi (an e) i = true → bi v i = true
section
variable {n : Nat} {mk lt tg : Nat → Int32} {pa an kn la : Nat → Int64} {v : Int64}
theorem Inv.vk (h : Inv n lt tg an kn) {a : Nat} (ha : a < 4) : vok n an (kn a) := ⟨h.2.1 a ha, h.2.2.2.1 a ha⟩
theorem Inv.ve (h : Inv n lt tg an kn) {e : Nat} (he : e < n) : vok n an (an e ||| ol e) := by
  have h60 := h.1
  refine ⟨fun i hi => ?_, fun d hd i hi => ?_⟩
  · rw [bi_or, bi_ol1 (by omega)] at hi
    simp only [Bool.or_eq_true, decide_eq_true_eq] at hi
    rcases hi with hi | rfl
    · have := h.2.2.1 e he i hi; omega
    · exact he
  · rw [bi_or, bi_ol1 (by omega)] at hd ⊢
    simp only [Bool.or_eq_true, decide_eq_true_eq] at hd ⊢
    rcases hd with hd | rfl
    · exact Or.inl (h.2.2.2.2.1 e he d hd i hi)
    · exact Or.inl hi
theorem Inv.hangV (h : Inv n lt tg an kn) (hv : vok n an v) : hang (vI lt v) tg n := by
  intro k hk hp
  simp only [vI, Bool.and_eq_true] at hp
  rcases h.2.2.2.2.2.1 k hk hp.2 with q | ⟨t, h1, h2, h3, h4⟩
  · exact Or.inl q
  · exact Or.inr ⟨t, h1, h2, by simp only [vI, Bool.and_eq_true]; exact ⟨hv.2 k hp.1 t h4, h3⟩⟩
theorem Inv.hangA (h : Inv n lt tg an kn) : hang (ins lt) tg n := by
  intro k hk hp
  rcases h.2.2.2.2.2.1 k hk hp with q | ⟨t, h1, h2, h3, h4⟩
  · exact Or.inl q
  · exact Or.inr ⟨t, h1, h2, h3⟩
theorem Inv.hdl (h : Inv n lt tg an kn) : ∀ k, k < n → bi v k = true → lt k = -1 → ∃ t, t < n ∧ tg k = nI t := by
  intro k hk _ hd
  obtain ⟨t, h1, h2, -⟩ := h.2.2.2.2.2.2 k hk (ins_f hd)
  exact ⟨t, by omega, h2⟩
theorem bi_sI : ∀ (k i : Nat), k ≤ 64 → bi (sI lt v k) i = (decide (i < k) && vI lt v i)
  | 0, i, _ => by rw [sI, bi_0]; simp
  | k + 1, i, hk => by
    rw [sI]
    by_cases q : bi v k = true ∧ ins lt k = true
    · rw [if_pos q, bi_or, bi_sI k i (by omega), bi_ol1 (by omega)]
      by_cases z : k = i
      · subst z; simp [vI, q.1, q.2]
      · have : decide (i < k + 1) = decide (i < k) := by
          by_cases y : i < k
          · simp [y, show i < k + 1 by omega]
          · simp [y, show ¬ i < k + 1 by omega]
        simp [z, this]
    · rw [if_neg q, bi_sI k i (by omega)]
      by_cases z : k = i
      · subst z
        have : vI lt v k = false := by
          cases h1 : vI lt v k
          · rfl
          · simp only [vI, Bool.and_eq_true] at h1; exact absurd h1 q
        simp [this]
      · have : decide (i < k + 1) = decide (i < k) := by
          by_cases y : i < k
          · simp [y, show i < k + 1 by omega]
          · simp [y, show ¬ i < k + 1 by omega]
        rw [this]
theorem bi_sG (hdl : ∀ k, k < n → bi v k = true → lt k = -1 → ∃ t, t < n ∧ tg k = nI t) (hn : n ≤ 60) : ∀ (k i : Nat), k ≤ n → i < 64 → bi (sG lt tg v k) i = gO lt tg v k (nI i)
  | 0, i, _, _ => by rw [sG, bi_0]; rfl
  | k + 1, i, hk, hi => by
    rw [sG, gO]
    by_cases q : bi v k = true ∧ ins lt k = false
    · obtain ⟨t, h1, h2⟩ := hdl k (by omega) q.1 (ins_eq q.2)
      rw [if_pos q, bi_or, bi_sG hdl hn k i (by omega) hi, h2, cl_nI (by omega), bi_ol1 (by omega), q.1, q.2]
      have : decide (t = i) = decide (nI t = nI i) := by
        by_cases z : t = i
        · simp [z]
        · have : ¬ nI t = nI i := fun y => z (nI_in1 (by omega) (by omega) y)
          simp [z, this]
      rw [this]
      simp
    · rw [if_neg q, bi_sG hdl hn k i (by omega) hi]
      have : (bi v k && (!ins lt k && decide (tg k = nI i))) = false := by
        cases h1 : bi v k
        · rfl
        · cases h2 : ins lt k
          · exact absurd ⟨h1, h2⟩ q
          · rfl
      rw [this, Bool.or_false]
theorem bi_sd (h : Inv n lt tg an kn) {i : Nat} (hi : i < n) : bi (sdX lt tg v n) i = (vI lt v i && !gO lt tg v n (nI i)) := by
  have h60 := h.1
  rw [sdX, bi_and, bi_not, bi_sI n i (by omega), bi_sG h.hdl h60 n i (Nat.le_refl _) (by omega)]
  simp [hi, show i < 64 by omega]
/-- the class's walk over all letters gives the text -/
theorem tx_all (h : Inv n lt tg an kn) (hv : vok n an v) : (lay (ins lt) tg n).filter (bi (sdX lt tg v n)) = tx n lt tg v := by
  have h60 := h.1
  rw [tx, lay_filter (P := ins lt) (by omega) (h.hangV hv) (fun k _ hk => by simp only [vI, Bool.and_eq_true] at hk; exact hk.2), List.filter_filter]
  refine List.filter_congr (fun i hi => ?_)
  rw [bi_sd h (lay_mem hi).1, Bool.and_comm]
/-- .. and so does its list of one version's letters -/
theorem tx_list (h : Inv n lt tg an kn) : (lay (vI lt v) tg n).filter (bi (sdX lt tg v n)) = tx n lt tg v := by
  rw [tx]
  refine List.filter_congr (fun i hi => ?_)
  rw [bi_sd h (lay_mem hi).1, (lay_mem hi).2, Bool.true_and]
theorem lay_len {P : Nat → Bool} : ∀ k, (lay P tg k).Nodup → (lay P tg k).length ≤ k := by
  intro k hn
  have h1 : (lay P tg k).Subset (List.range k) := fun x hx => List.mem_range.mpr (lay_mem hx).1
  have h2 := List.Nodup.length_le_of_subset hn h1
  rwa [List.length_range] at h2
theorem tx_mem {x : Nat} (h : x ∈ tx n lt tg v) : x < n ∧ bi v x = true ∧ ins lt x = true := by
  have h1 := (List.mem_filter.mp h).1
  have h2 := lay_mem h1
  simp only [vI, Bool.and_eq_true] at h2
  exact ⟨h2.1, h2.2.1, h2.2.2⟩
theorem tx_len (h : Inv n lt tg an kn) (hv : vok n an v) : (tx n lt tg v).length ≤ n := by
  have h60 := h.1
  exact Nat.le_trans (List.length_filter_le _ _) (lay_len n (lay_nodup (by omega) (h.hangV hv)))
end
end
section
-- THE CLASS: its readers (by gen.py, specX.py)
set_option maxHeartbeats 4000000 in
set_option maxRecDepth 100000 in
theorem c_X0_only (l : Launch) (D : va_G) (cI cJ : ClassId) (i : Nat) (hi : i < 64) : eg_MR D (tyL cI cJ) l yX0_only wsX0_only ({ frames := 0, cells := 0, slots := 0, locals := 0 }) [.int (nI i)] [] (some (.long (ol i))) := by
  refine Met.ofW (cc := cX0_only) (maxL := 1) (ret := (some .long)) (by decide) rfl ?_
  intro p e s m args below meth c s₁ B hml hv
  obtain ⟨rfl, hP, hK⟩ := hv
  have hx := B.exec
  have hb := B.bytes
  have hr := B.returns
  have hts := atoms_spec (ws := wsX0_only) B.pre
  have hown : s.vm.findClass RX0 = some m.cls := findClass_of_methodNamed B.named
  have hlocks := B.notSynchronized
  have hl := lv_entry ([.int (nI i)]) (n := 1) (Nat.le_of_ble_eq_true rfl)
  rw [lg_entry_eq]
  generalize (lg_sl ([.int (nI i)]) ++ List.replicate (1 - (lg_sl ([.int (nI i)])).length) Slot.unset).toArray = ls at hl ⊢
  have hl : lv_has ls 1 [(0, .int (nI i))] := hl
  refine lv_lconst (v := 1) hx hb dX0_only_0 (by decide) ?_
  refine lv_iload_n hx hb dX0_only_1 rfl (lv_at hl 0 rfl) ?_
  refine lv_lshl (v := (1 <<< ((nI i).toInt64 &&& 63))) hx hb dX0_only_2 rfl ?_
  exact W.lret hx hb hr (fun t9 ht9 _ => ⟨congrArg (fun z => Outcome.returned (some (Value.long z))) (by first | exact ol_shl i hi), ht9⟩) (fun q h => nomatch h) dX0_only_3
set_option maxHeartbeats 4000000 in
set_option maxRecDepth 100000 in
theorem c_X0_has (l : Launch) (D : va_G) (cI cJ : ClassId) (x : Int64) (i : Nat) (hi : i < 64) : eg_MR D (tyL cI cJ) l yX0_has wsX0_has ({ frames := 1, cells := 0, slots := 0, locals := 20 }) [.long x, .int (nI i)] [] (some (.int (eb (bi x i)))) := by
  refine Met.ofW (cc := cX0_has) (maxL := 3) (ret := (some .boolean)) (by decide) rfl ?_
  intro p e s m args below meth c s₁ B hml hv
  obtain ⟨rfl, hP, hK⟩ := hv
  have hx := B.exec
  have hb := B.bytes
  have hr := B.returns
  have hts := atoms_spec (ws := wsX0_has) B.pre
  have hown : s.vm.findClass RX0 = some m.cls := findClass_of_methodNamed B.named
  have hlocks := B.notSynchronized
  have hl := lv_entry ([.long x, .int (nI i)]) (n := 3) (Nat.le_of_ble_eq_true rfl)
  rw [lg_entry_eq]
  generalize (lg_sl ([.long x, .int (nI i)]) ++ List.replicate (3 - (lg_sl ([.long x, .int (nI i)])).length) Slot.unset).toArray = ls at hl ⊢
  have hl : lv_has ls 3 [(0, .long x), (2, .int (nI i))] := hl
  refine lv_lload_n hx hb dX0_has_0 rfl (lv_at hl 0 rfl) ?_
  refine lv_iload_n hx hb dX0_has_1 rfl (lv_at hl 1 rfl) ?_
  refine eg_callS (As := [.int (nI i)]) (rest := [.long x]) hx hb hml hown hts hK (c_X0_only l D cI cJ i hi) (va_cwS 1 hts gX0_has_X0_only rfl rfl rfl (by decide +kernel) ⟨Nat.le_of_ble_eq_true rfl, Nat.le_of_ble_eq_true rfl⟩) rfl hl.1 rfl (Nat.le_of_ble_eq_true rfl) dX0_has_2 ⟨Nat.zero_le _, Nat.zero_le _⟩ ?_
  refine lv_land hx hb dX0_has_5 ?_
  refine lv_lconst (v := 0) hx hb dX0_has_6 (by decide) ?_
  refine eg_lcmp_eq (tgt := 15) hx hb dX0_has_7 rfl dX0_has_8 (by decide) (fun c7 => ?_) (fun c7 => ?_)
  · refine lv_iconst (v := nI 0) hx hb dX0_has_15 (by decide +kernel) ?_
    exact W.zret hx hb hr (by first | rfl | exact eb_nar) (fun t9 ht9 _ => ⟨congrArg (fun z => Outcome.returned (some (Value.int z))) (by first | exact eb_z ((has_0 hi).mp c7) | exact eb_1 (has_0n hi c7)), ht9⟩) (fun q h => nomatch h) dX0_has_16
  · refine lv_iconst (v := nI 1) hx hb dX0_has_11 (by decide +kernel) ?_
    refine lv_goto (tgt := 16) hx hb dX0_has_12 (by decide) ?_
    exact W.zret hx hb hr (by first | rfl | exact eb_nar) (fun t9 ht9 _ => ⟨congrArg (fun z => Outcome.returned (some (Value.int z))) (by first | exact eb_z ((has_0 hi).mp c7) | exact eb_1 (has_0n hi c7)), ht9⟩) (fun q h => nomatch h) dX0_has_16
set_option maxHeartbeats 4000000 in
set_option maxRecDepth 100000 in
theorem c_X0_isEvent (l : Launch) (D : va_G) (cI cJ : ClassId) (q : Nat → Nat) (n : Nat) (mk lt tg : Nat → Int32) (pa an la kn : Nat → Int64) (fb : Int32) (fh nb te wt bh : Nat → Int32) (x : Int32) : eg_MR D (tyL cI cJ) l yX0_isEvent wsX0_isEvent ({ frames := 0, cells := 0, slots := 0, locals := 0 }) [.ref (q 0), .int x] (wX q cI cJ (nI n) mk lt tg pa an la kn fb fh nb te wt bh) (some (.int (eb (ev n x)))) := by
  refine Met.ofW (cc := cX0_isEvent) (maxL := 2) (ret := (some .boolean)) (by decide) rfl ?_
  intro p e s m args below meth c s₁ B hml hv
  obtain ⟨rfl, hP, hK⟩ := hv
  have hx := B.exec
  have hb := B.bytes
  have hr := B.returns
  have hts := atoms_spec (ws := wsX0_isEvent) B.pre
  have hown : s.vm.findClass RX0 = some m.cls := findClass_of_methodNamed B.named
  have hlocks := B.notSynchronized
  have hin : ∀ w ∈ u_ws RX0 TX0 14, w ∈ wsX0_isEvent := by decide +kernel
  have hl := lv_entry ([.ref (q 0), .int x]) (n := 2) (Nat.le_of_ble_eq_true rfl)
  rw [lg_entry_eq]
  generalize (lg_sl ([.ref (q 0), .int x]) ++ List.replicate (2 - (lg_sl ([.ref (q 0), .int x])).length) Slot.unset).toArray = ls at hl ⊢
  have hl : lv_has ls 2 [(0, .ref (q 0)), (1, .int x)] := hl
  refine lv_iload_n hx hb dX0_isEvent_0 rfl (lv_at hl 1 rfl) ?_
  refine lv_if_lt (tgt := 16) hx hb dX0_isEvent_1 (by decide) (fun c1 => ?_) (fun c1 => ?_)
  · refine lv_iconst (v := nI 0) hx hb dX0_isEvent_16 (by decide +kernel) ?_
    exact W.zret hx hb hr (by first | rfl | exact eb_nar) (fun t9 ht9 _ => ⟨congrArg (fun z => Outcome.returned (some (Value.int z))) (by first | exact eb_z (ev_f1 c1) | exact eb_z (ev_f2 c9) | exact eb_1 (ev_t c1 c9)), ht9⟩) (fun q h => nomatch h) dX0_isEvent_17
  · refine lv_iload_n hx hb dX0_isEvent_4 rfl (lv_at hl 1 rfl) ?_
    refine lv_aload_n hx hb dX0_isEvent_5 rfl (lv_at hl 0 rfl) ?_
    refine va_get (D := D) (ci := 0) (v := .int (nI n)) (C := RX0) (T := TX0) (N := 14) hx hb hts hin hown hK hP 0 rfl rfl 0 (by decide) (hts (.fieldLink RX0 7 "EditGraph" "eventCount" "I") (by decide +kernel)) (fun _ h9 => h9) rfl dX0_isEvent_6 ?_
    refine lv_icmp_ge (tgt := 16) hx hb dX0_isEvent_9 (by decide) (fun c9 => ?_) (fun c9 => ?_)
    · refine lv_iconst (v := nI 0) hx hb dX0_isEvent_16 (by decide +kernel) ?_
      exact W.zret hx hb hr (by first | rfl | exact eb_nar) (fun t9 ht9 _ => ⟨congrArg (fun z => Outcome.returned (some (Value.int z))) (by first | exact eb_z (ev_f1 c1) | exact eb_z (ev_f2 c9) | exact eb_1 (ev_t c1 c9)), ht9⟩) (fun q h => nomatch h) dX0_isEvent_17
    · refine lv_iconst (v := nI 1) hx hb dX0_isEvent_12 (by decide +kernel) ?_
      refine lv_goto (tgt := 17) hx hb dX0_isEvent_13 (by decide) ?_
      exact W.zret hx hb hr (by first | rfl | exact eb_nar) (fun t9 ht9 _ => ⟨congrArg (fun z => Outcome.returned (some (Value.int z))) (by first | exact eb_z (ev_f1 c1) | exact eb_z (ev_f2 c9) | exact eb_1 (ev_t c1 c9)), ht9⟩) (fun q h => nomatch h) dX0_isEvent_17
set_option maxHeartbeats 4000000 in
set_option maxRecDepth 100000 in
theorem c_X0_isInsert (l : Launch) (D : va_G) (cI cJ : ClassId) (q : Nat → Nat) (n : Nat) (mk lt tg : Nat → Int32) (pa an la kn : Nat → Int64) (fb : Int32) (fh nb te wt bh : Nat → Int32) (i : Nat) (hi : i < 60) : eg_MR D (tyL cI cJ) l yX0_isInsert wsX0_isInsert ({ frames := 0, cells := 0, slots := 0, locals := 0 }) [.ref (q 0), .int (nI i)] (wX q cI cJ (nI n) mk lt tg pa an la kn fb fh nb te wt bh) (some (.int (eb (ins lt i)))) := by
  refine Met.ofW (cc := cX0_isInsert) (maxL := 2) (ret := (some .boolean)) (by decide) rfl ?_
  intro p e s m args below meth c s₁ B hml hv
  obtain ⟨rfl, hP, hK⟩ := hv
  have hx := B.exec
  have hb := B.bytes
  have hr := B.returns
  have hts := atoms_spec (ws := wsX0_isInsert) B.pre
  have hown : s.vm.findClass RX0 = some m.cls := findClass_of_methodNamed B.named
  have hlocks := B.notSynchronized
  have hin : ∀ w ∈ u_ws RX0 TX0 14, w ∈ wsX0_isInsert := by decide +kernel
  have hl := lv_entry ([.ref (q 0), .int (nI i)]) (n := 2) (Nat.le_of_ble_eq_true rfl)
  rw [lg_entry_eq]
  generalize (lg_sl ([.ref (q 0), .int (nI i)]) ++ List.replicate (2 - (lg_sl ([.ref (q 0), .int (nI i)])).length) Slot.unset).toArray = ls at hl ⊢
  have hl : lv_has ls 2 [(0, .ref (q 0)), (1, .int (nI i))] := hl
  refine lv_aload_n hx hb dX0_isInsert_0 rfl (lv_at hl 0 rfl) ?_
  refine va_get (D := D) (ci := 0) (v := .ref (q 2)) (C := RX0) (T := TX0) (N := 14) hx hb hts hin hown hK hP 0 rfl rfl 2 (by decide) (hts (.fieldLink RX0 17 "EditGraph" "letters" "[I") (by decide +kernel)) (fun _ h9 => h9) rfl dX0_isInsert_1 ?_
  refine lv_iload_n hx hb dX0_isInsert_4 rfl (lv_at hl 1 rfl) ?_
  refine eg_iald hx hb hK hP 2 0 rfl rfl (by omega) (by decide) dX0_isInsert_5 ?_
  refine lv_iconst (v := (-1)) hx hb dX0_isInsert_6 (by decide +kernel) ?_
  refine lv_icmp_eq (tgt := 14) hx hb dX0_isInsert_7 (by decide) (fun c7 => ?_) (fun c7 => ?_)
  · refine lv_iconst (v := nI 0) hx hb dX0_isInsert_14 (by decide +kernel) ?_
    exact W.zret hx hb hr (by first | rfl | exact eb_nar) (fun t9 ht9 _ => ⟨congrArg (fun z => Outcome.returned (some (Value.int z))) (by first | exact eb_z (ins_f c7) | exact eb_1 (ins_t c7)), ht9⟩) (fun q h => nomatch h) dX0_isInsert_15
  · refine lv_iconst (v := nI 1) hx hb dX0_isInsert_10 (by decide +kernel) ?_
    refine lv_goto (tgt := 15) hx hb dX0_isInsert_11 (by decide) ?_
    exact W.zret hx hb hr (by first | rfl | exact eb_nar) (fun t9 ht9 _ => ⟨congrArg (fun z => Outcome.returned (some (Value.int z))) (by first | exact eb_z (ins_f c7) | exact eb_1 (ins_t c7)), ht9⟩) (fun q h => nomatch h) dX0_isInsert_15
set_option maxHeartbeats 4000000 in
set_option maxRecDepth 100000 in
theorem c_X0_versionOfEvent (l : Launch) (D : va_G) (cI cJ : ClassId) (q : Nat → Nat) (n : Nat) (mk lt tg : Nat → Int32) (pa an la kn : Nat → Int64) (fb : Int32) (fh nb te wt bh : Nat → Int32) (i : Nat) (hi : i < 60) : eg_MR D (tyL cI cJ) l yX0_versionOfEvent wsX0_versionOfEvent ({ frames := 1, cells := 0, slots := 0, locals := 20 }) [.ref (q 0), .int (nI i)] (wX q cI cJ (nI n) mk lt tg pa an la kn fb fh nb te wt bh) (some (.long (an i ||| ol i))) := by
  refine Met.ofW (cc := cX0_versionOfEvent) (maxL := 2) (ret := (some .long)) (by decide) rfl ?_
  intro p e s m args below meth c s₁ B hml hv
  obtain ⟨rfl, hP, hK⟩ := hv
  have hx := B.exec
  have hb := B.bytes
  have hr := B.returns
  have hts := atoms_spec (ws := wsX0_versionOfEvent) B.pre
  have hown : s.vm.findClass RX0 = some m.cls := findClass_of_methodNamed B.named
  have hlocks := B.notSynchronized
  have hin : ∀ w ∈ u_ws RX0 TX0 14, w ∈ wsX0_versionOfEvent := by decide +kernel
  have hl := lv_entry ([.ref (q 0), .int (nI i)]) (n := 2) (Nat.le_of_ble_eq_true rfl)
  rw [lg_entry_eq]
  generalize (lg_sl ([.ref (q 0), .int (nI i)]) ++ List.replicate (2 - (lg_sl ([.ref (q 0), .int (nI i)])).length) Slot.unset).toArray = ls at hl ⊢
  have hl : lv_has ls 2 [(0, .ref (q 0)), (1, .int (nI i))] := hl
  refine lv_aload_n hx hb dX0_versionOfEvent_0 rfl (lv_at hl 0 rfl) ?_
  refine va_get (D := D) (ci := 0) (v := .ref (q 5)) (C := RX0) (T := TX0) (N := 14) hx hb hts hin hown hK hP 0 rfl rfl 5 (by decide) (hts (.fieldLink RX0 27 "EditGraph" "ancestorSets" "[J") (by decide +kernel)) (fun _ h9 => h9) rfl dX0_versionOfEvent_1 ?_
  refine lv_iload_n hx hb dX0_versionOfEvent_4 rfl (lv_at hl 1 rfl) ?_
  refine eg_lald hx hb hK hP 5 1 rfl rfl (by omega) (by decide) dX0_versionOfEvent_5 ?_
  refine lv_iload_n hx hb dX0_versionOfEvent_6 rfl (lv_at hl 1 rfl) ?_
  refine eg_callS (As := [.int (nI i)]) (rest := [.long (an i)]) hx hb hml hown hts hK (c_X0_only l D cI cJ i (by omega)) (va_cwS 1 hts gX0_versionOfEvent_X0_only rfl rfl rfl (by decide +kernel) ⟨Nat.le_of_ble_eq_true rfl, Nat.le_of_ble_eq_true rfl⟩) rfl hl.1 rfl (Nat.le_of_ble_eq_true rfl) dX0_versionOfEvent_7 ⟨Nat.zero_le _, Nat.zero_le _⟩ ?_
  refine lv_lor hx hb dX0_versionOfEvent_10 ?_
  exact W.lret hx hb hr (fun t9 ht9 _ => ⟨congrArg (fun z => Outcome.returned (some (Value.long z))) (by first | exact rfl), ht9⟩) (fun q h => nomatch h) dX0_versionOfEvent_11
set_option maxHeartbeats 4000000 in
set_option maxRecDepth 100000 in
theorem c_X0_relatedTo (l : Launch) (D : va_G) (cI cJ : ClassId) (q : Nat → Nat) (n : Nat) (mk lt tg : Nat → Int32) (pa an la kn : Nat → Int64) (fb : Int32) (fh nb te wt bh : Nat → Int32) (i : Nat) (hi : i < 60) : eg_MR D (tyL cI cJ) l yX0_relatedTo wsX0_relatedTo ({ frames := 2, cells := 0, slots := 0, locals := 41 }) [.ref (q 0), .int (nI i)] (wX q cI cJ (nI n) mk lt tg pa an la kn fb fh nb te wt bh) (some (.long (rel an la i))) := by
  refine Met.ofW (cc := cX0_relatedTo) (maxL := 2) (ret := (some .long)) (by decide) rfl ?_
  intro p e s m args below meth c s₁ B hml hv
  obtain ⟨rfl, hP, hK⟩ := hv
  have hx := B.exec
  have hb := B.bytes
  have hr := B.returns
  have hts := atoms_spec (ws := wsX0_relatedTo) B.pre
  have hown : s.vm.findClass RX0 = some m.cls := findClass_of_methodNamed B.named
  have hlocks := B.notSynchronized
  have hin : ∀ w ∈ u_ws RX0 TX0 14, w ∈ wsX0_relatedTo := by decide +kernel
  have hl := lv_entry ([.ref (q 0), .int (nI i)]) (n := 2) (Nat.le_of_ble_eq_true rfl)
  rw [lg_entry_eq]
  generalize (lg_sl ([.ref (q 0), .int (nI i)]) ++ List.replicate (2 - (lg_sl ([.ref (q 0), .int (nI i)])).length) Slot.unset).toArray = ls at hl ⊢
  have hl : lv_has ls 2 [(0, .ref (q 0)), (1, .int (nI i))] := hl
  refine lv_aload_n hx hb dX0_relatedTo_0 rfl (lv_at hl 0 rfl) ?_
  refine lv_iload_n hx hb dX0_relatedTo_1 rfl (lv_at hl 1 rfl) ?_
  refine eg_callV (As := [.int (nI i)]) (rest := []) hx hb hml hown hts hK hP (c_X0_versionOfEvent l D cI cJ q n mk lt tg pa an la kn fb fh nb te wt bh i hi) (cwV 1 hts gX0_relatedTo_X0_versionOfEvent rfl rfl rfl (by decide +kernel) ⟨Nat.le_of_ble_eq_true rfl, Nat.le_of_ble_eq_true rfl⟩) (va_recv hK hP (ci := 0) (q0 := 0) rfl rfl) rfl hl.1 rfl (Nat.le_of_ble_eq_true rfl) dX0_relatedTo_2 ⟨Nat.zero_le _, Nat.zero_le _⟩ ?_
  refine lv_aload_n hx hb dX0_relatedTo_5 rfl (lv_at hl 0 rfl) ?_
  refine va_get (D := D) (ci := 0) (v := .ref (q 6)) (C := RX0) (T := TX0) (N := 14) hx hb hts hin hown hK hP 0 rfl rfl 6 (by decide) (hts (.fieldLink RX0 30 "EditGraph" "laterSets" "[J") (by decide +kernel)) (fun _ h9 => h9) rfl dX0_relatedTo_6 ?_
  refine lv_iload_n hx hb dX0_relatedTo_9 rfl (lv_at hl 1 rfl) ?_
  refine eg_lald hx hb hK hP 6 1 rfl rfl (by omega) (by decide) dX0_relatedTo_10 ?_
  refine lv_lor hx hb dX0_relatedTo_11 ?_
  exact W.lret hx hb hr (fun t9 ht9 _ => ⟨congrArg (fun z => Outcome.returned (some (Value.long z))) (by first | exact rfl), ht9⟩) (fun q h => nomatch h) dX0_relatedTo_12
set_option maxHeartbeats 4000000 in
set_option maxRecDepth 100000 in
theorem c_X0_headsOf (l : Launch) (D : va_G) (cI cJ : ClassId) (q : Nat → Nat) (n : Nat) (mk lt tg : Nat → Int32) (pa an la kn : Nat → Int64) (fb : Int32) (fh nb te wt bh : Nat → Int32) (v : Int64) (hn : n ≤ 60) : eg_MR D (tyL cI cJ) l yX0_headsOf wsX0_headsOf ({ frames := 2, cells := 0, slots := 0, locals := 42 }) [.ref (q 0), .long v] (wX q cI cJ (nI n) mk lt tg pa an la kn fb fh nb te wt bh) (some (.long (hdX pa v n))) := by
  refine Met.ofW (cc := cX0_headsOf) (maxL := 6) (ret := (some .long)) (by decide) rfl ?_
  intro p e s m args below meth c s₁ B hml hv
  obtain ⟨rfl, hP, hK⟩ := hv
  have hx := B.exec
  have hb := B.bytes
  have hr := B.returns
  have hts := atoms_spec (ws := wsX0_headsOf) B.pre
  have hown : s.vm.findClass RX0 = some m.cls := findClass_of_methodNamed B.named
  have hlocks := B.notSynchronized
  have hin : ∀ w ∈ u_ws RX0 TX0 14, w ∈ wsX0_headsOf := by decide +kernel
  have hl := lv_entry ([.ref (q 0), .long v]) (n := 6) (Nat.le_of_ble_eq_true rfl)
  rw [lg_entry_eq]
  generalize (lg_sl ([.ref (q 0), .long v]) ++ List.replicate (6 - (lg_sl ([.ref (q 0), .long v])).length) Slot.unset).toArray = ls at hl ⊢
  have hl : lv_has ls 6 [(0, .ref (q 0)), (1, .long v)] := hl
  have loop : ∀ (f i : Nat) (ls : Array Slot), n < i + f → i ≤ n → lv_has ls 6 [(0, .ref (q 0)), (1, .long v), (3, .long (hO pa v i)), (5, .int (nI i))] → W p l e (headSpec wsX0_headsOf ({ frames := 2, cells := 0, slots := 0, locals := 42 })).room s m ([.ref (q 0), .long v] : List Value).toArray below meth c s.heap [] 0 0 (MQ below (eg_R (some (.long (hdX pa v n)))) ([.ref (q 0), .long v] : List Value).toArray s 0 0 (fun _ => False)) (F0 m 5 ls []) := by
    intro f
    induction f with
    | zero => intro i  ls h1 h2 hl; omega
    | succ f ih =>
      intro i  ls h1 h2 hl
      refine lv_iload hx hb dX0_headsOf_5 (lv_at hl 3 rfl) ?_
      refine lv_aload_n hx hb dX0_headsOf_7 rfl (lv_at hl 0 rfl) ?_
      refine va_get (D := D) (ci := 0) (v := .int (nI n)) (C := RX0) (T := TX0) (N := 14) hx hb hts hin hown hK hP 0 rfl rfl 0 (by decide) (hts (.fieldLink RX0 7 "EditGraph" "eventCount" "I") (by decide +kernel)) (fun _ h9 => h9) rfl dX0_headsOf_8 ?_
      refine eg_icmp_ge (tgt := 39) hx hb dX0_headsOf_11 (by decide) (by omega) (by omega) (fun c11 => ?_) (fun c11 => ?_)
      · refine lv_lload_n hx hb dX0_headsOf_39 rfl (lv_at hl 1 rfl) ?_
        refine lv_lload_n hx hb dX0_headsOf_40 rfl (lv_at hl 2 rfl) ?_
        refine lv_ldc2 hx hb hown (hts (.constantLong RX0 112 (-1)) (by decide +kernel)) dX0_headsOf_41 ?_
        refine lv_lxor hx hb dX0_headsOf_44 ?_
        refine lv_land hx hb dX0_headsOf_45 ?_
        exact W.lret hx hb hr (fun t9 ht9 _ => ⟨congrArg (fun z => Outcome.returned (some (Value.long z))) (by first | (rw [hdX, show n = i by omega]; done)), ht9⟩) (fun q h => nomatch h) dX0_headsOf_46
      · refine lv_lload_n hx hb dX0_headsOf_14 rfl (lv_at hl 1 rfl) ?_
        refine lv_iload hx hb dX0_headsOf_15 (lv_at hl 3 rfl) ?_
        refine eg_callS (As := [.long v, .int (nI i)]) (rest := []) hx hb hml hown hts hK (c_X0_has l D cI cJ v i (by omega)) (va_cwS 2 hts gX0_headsOf_X0_has rfl rfl rfl (by decide +kernel) ⟨Nat.le_of_ble_eq_true rfl, Nat.le_of_ble_eq_true rfl⟩) rfl hl.1 rfl (Nat.le_of_ble_eq_true rfl) dX0_headsOf_17 ⟨Nat.zero_le _, Nat.zero_le _⟩ ?_
        refine eg_ifeq_b (tgt := 33) hx hb dX0_headsOf_20 (by decide) (fun c20 => ?_) (fun c20 => ?_)
        · refine lv_iinc (v := nI (i + 1)) (lv' := [(5, .int (nI (i + 1))), (0, .ref (q 0)), (1, .long v), (3, .long (hO pa v i))]) hx hb dX0_headsOf_33 hl (k := 3) rfl (eg_inc1 _) (by decide) rfl (fun ls hl => ?_)
          refine lv_goto (tgt := 5) hx hb dX0_headsOf_36 (by decide) ?_
          have eA0 : hO pa v (i + 1) = hO pa v i := by first | (simp [hO, c20]; done)
          exact ih (i + 1) _ (by omega) (by omega) (by rw [eA0]; exact lv_sub hl [1, 2, 3, 0] rfl)
        · refine lv_lload_n hx hb dX0_headsOf_23 rfl (lv_at hl 2 rfl) ?_
          refine lv_aload_n hx hb dX0_headsOf_24 rfl (lv_at hl 0 rfl) ?_
          refine va_get (D := D) (ci := 0) (v := .ref (q 4)) (C := RX0) (T := TX0) (N := 14) hx hb hts hin hown hK hP 0 rfl rfl 4 (by decide) (hts (.fieldLink RX0 23 "EditGraph" "parentSets" "[J") (by decide +kernel)) (fun _ h9 => h9) rfl dX0_headsOf_25 ?_
          refine lv_iload hx hb dX0_headsOf_28 (lv_at hl 3 rfl) ?_
          refine eg_lald hx hb hK hP 4 1 rfl rfl (by omega) (by decide) dX0_headsOf_30 ?_
          refine lv_lor hx hb dX0_headsOf_31 ?_
          refine lv_lstore_n (lv' := [(3, .long ((hO pa v i) ||| (pa i))), (0, .ref (q 0)), (1, .long v), (5, .int (nI i))]) hx hb dX0_headsOf_32 rfl hl (by decide) rfl (fun ls hl => ?_)
          refine lv_iinc (v := nI (i + 1)) (lv' := [(5, .int (nI (i + 1))), (3, .long ((hO pa v i) ||| (pa i))), (0, .ref (q 0)), (1, .long v)]) hx hb dX0_headsOf_33 hl (k := 3) rfl (eg_inc1 _) (by decide) rfl (fun ls hl => ?_)
          refine lv_goto (tgt := 5) hx hb dX0_headsOf_36 (by decide) ?_
          have eA0 : hO pa v (i + 1) = ((hO pa v i) ||| (pa i)) := by first | (simp [hO, c20]; done)
          exact ih (i + 1) _ (by omega) (by omega) (by rw [eA0]; exact lv_sub hl [2, 3, 1, 0] rfl)
  refine lv_lconst (v := 0) hx hb dX0_headsOf_0 (by decide) ?_
  refine lv_lstore_n (lv' := [(3, .long 0), (0, .ref (q 0)), (1, .long v)]) hx hb dX0_headsOf_1 rfl hl (by decide) rfl (fun ls hl => ?_)
  refine lv_iconst (v := nI 0) hx hb dX0_headsOf_2 (by decide +kernel) ?_
  refine lv_istore (lv' := [(5, .int (nI 0)), (3, .long 0), (0, .ref (q 0)), (1, .long v)]) hx hb dX0_headsOf_3 hl (by decide) rfl (fun ls hl => ?_)
  exact loop (n + 1) 0 _ (by omega) (by omega) (lv_sub hl [2, 3, 1, 0] rfl)
set_option maxHeartbeats 4000000 in
set_option maxRecDepth 100000 in
theorem c_X0_criticalOf (l : Launch) (D : va_G) (cI cJ : ClassId) (q : Nat → Nat) (n : Nat) (mk lt tg : Nat → Int32) (pa an la kn : Nat → Int64) (fb : Int32) (fh nb te wt bh : Nat → Int32) (v : Int64) (hn : n ≤ 60) : eg_MR D (tyL cI cJ) l yX0_criticalOf wsX0_criticalOf ({ frames := 3, cells := 0, slots := 0, locals := 62 }) [.ref (q 0), .long v] (wX q cI cJ (nI n) mk lt tg pa an la kn fb fh nb te wt bh) (some (.long (cO an la v n))) := by
  refine Met.ofW (cc := cX0_criticalOf) (maxL := 6) (ret := (some .long)) (by decide) rfl ?_
  intro p e s m args below meth c s₁ B hml hv
  obtain ⟨rfl, hP, hK⟩ := hv
  have hx := B.exec
  have hb := B.bytes
  have hr := B.returns
  have hts := atoms_spec (ws := wsX0_criticalOf) B.pre
  have hown : s.vm.findClass RX0 = some m.cls := findClass_of_methodNamed B.named
  have hlocks := B.notSynchronized
  have hin : ∀ w ∈ u_ws RX0 TX0 14, w ∈ wsX0_criticalOf := by decide +kernel
  have hl := lv_entry ([.ref (q 0), .long v]) (n := 6) (Nat.le_of_ble_eq_true rfl)
  rw [lg_entry_eq]
  generalize (lg_sl ([.ref (q 0), .long v]) ++ List.replicate (6 - (lg_sl ([.ref (q 0), .long v])).length) Slot.unset).toArray = ls at hl ⊢
  have hl : lv_has ls 6 [(0, .ref (q 0)), (1, .long v)] := hl
  have loop : ∀ (f i : Nat) (ls : Array Slot), n < i + f → i ≤ n → lv_has ls 6 [(0, .ref (q 0)), (1, .long v), (3, .long (cO an la v i)), (5, .int (nI i))] → W p l e (headSpec wsX0_criticalOf ({ frames := 3, cells := 0, slots := 0, locals := 62 })).room s m ([.ref (q 0), .long v] : List Value).toArray below meth c s.heap [] 0 0 (MQ below (eg_R (some (.long (cO an la v n)))) ([.ref (q 0), .long v] : List Value).toArray s 0 0 (fun _ => False)) (F0 m 5 ls []) := by
    intro f
    induction f with
    | zero => intro i  ls h1 h2 hl; omega
    | succ f ih =>
      intro i  ls h1 h2 hl
      refine lv_iload hx hb dX0_criticalOf_5 (lv_at hl 3 rfl) ?_
      refine lv_aload_n hx hb dX0_criticalOf_7 rfl (lv_at hl 0 rfl) ?_
      refine va_get (D := D) (ci := 0) (v := .int (nI n)) (C := RX0) (T := TX0) (N := 14) hx hb hts hin hown hK hP 0 rfl rfl 0 (by decide) (hts (.fieldLink RX0 7 "EditGraph" "eventCount" "I") (by decide +kernel)) (fun _ h9 => h9) rfl dX0_criticalOf_8 ?_
      refine eg_icmp_ge (tgt := 54) hx hb dX0_criticalOf_11 (by decide) (by omega) (by omega) (fun c11 => ?_) (fun c11 => ?_)
      · refine lv_lload_n hx hb dX0_criticalOf_54 rfl (lv_at hl 2 rfl) ?_
        exact W.lret hx hb hr (fun t9 ht9 _ => ⟨congrArg (fun z => Outcome.returned (some (Value.long z))) (by first | (rw [show n = i by omega]; done)), ht9⟩) (fun q h => nomatch h) dX0_criticalOf_55
      · refine lv_lload_n hx hb dX0_criticalOf_14 rfl (lv_at hl 1 rfl) ?_
        refine lv_iload hx hb dX0_criticalOf_15 (lv_at hl 3 rfl) ?_
        refine eg_callS (As := [.long v, .int (nI i)]) (rest := []) hx hb hml hown hts hK (c_X0_has l D cI cJ v i (by omega)) (va_cwS 2 hts gX0_criticalOf_X0_has rfl rfl rfl (by decide +kernel) ⟨Nat.le_of_ble_eq_true rfl, Nat.le_of_ble_eq_true rfl⟩) rfl hl.1 rfl (Nat.le_of_ble_eq_true rfl) dX0_criticalOf_17 ⟨Nat.zero_le _, Nat.zero_le _⟩ ?_
        refine eg_ifeq_b (tgt := 48) hx hb dX0_criticalOf_20 (by decide) (fun c20 => ?_) (fun c20 => ?_)
        · refine lv_iinc (v := nI (i + 1)) (lv' := [(5, .int (nI (i + 1))), (0, .ref (q 0)), (1, .long v), (3, .long (cO an la v i))]) hx hb dX0_criticalOf_48 hl (k := 3) rfl (eg_inc1 _) (by decide) rfl (fun ls hl => ?_)
          refine lv_goto (tgt := 5) hx hb dX0_criticalOf_51 (by decide) ?_
          have eA0 : cO an la v (i + 1) = cO an la v i := by first | (rw [cO, if_pos ⟨c20, c36⟩]; done) | (rw [cO, if_neg (fun h => c36 h.2)]; done) | (rw [cO, if_neg (by simp [c20])]; done)
          exact ih (i + 1) _ (by omega) (by omega) (by rw [eA0]; exact lv_sub hl [1, 2, 3, 0] rfl)
        · refine lv_lload_n hx hb dX0_criticalOf_23 rfl (lv_at hl 1 rfl) ?_
          refine lv_aload_n hx hb dX0_criticalOf_24 rfl (lv_at hl 0 rfl) ?_
          refine lv_iload hx hb dX0_criticalOf_25 (lv_at hl 3 rfl) ?_
          refine eg_callV (As := [.int (nI i)]) (rest := [.long v]) hx hb hml hown hts hK hP (c_X0_relatedTo l D cI cJ q n mk lt tg pa an la kn fb fh nb te wt bh i (by omega)) (cwV 1 hts gX0_criticalOf_X0_relatedTo rfl rfl rfl (by decide +kernel) ⟨Nat.le_of_ble_eq_true rfl, Nat.le_of_ble_eq_true rfl⟩) (va_recv hK hP (ci := 0) (q0 := 0) rfl rfl) rfl hl.1 rfl (Nat.le_of_ble_eq_true rfl) dX0_criticalOf_27 ⟨Nat.zero_le _, Nat.zero_le _⟩ ?_
          refine lv_ldc2 hx hb hown (hts (.constantLong RX0 112 (-1)) (by decide +kernel)) dX0_criticalOf_30 ?_
          refine lv_lxor hx hb dX0_criticalOf_33 ?_
          refine lv_land hx hb dX0_criticalOf_34 ?_
          refine lv_lconst (v := 0) hx hb dX0_criticalOf_35 (by decide) ?_
          refine eg_lcmp_ne (tgt := 48) hx hb dX0_criticalOf_36 rfl dX0_criticalOf_37 (by decide) (fun c36 => ?_) (fun c36 => ?_)
          · refine lv_iinc (v := nI (i + 1)) (lv' := [(5, .int (nI (i + 1))), (0, .ref (q 0)), (1, .long v), (3, .long (cO an la v i))]) hx hb dX0_criticalOf_48 hl (k := 3) rfl (eg_inc1 _) (by decide) rfl (fun ls hl => ?_)
            refine lv_goto (tgt := 5) hx hb dX0_criticalOf_51 (by decide) ?_
            have eA0 : cO an la v (i + 1) = cO an la v i := by first | (rw [cO, if_pos ⟨c20, c36⟩]; done) | (rw [cO, if_neg (fun h => c36 h.2)]; done) | (rw [cO, if_neg (by simp [c20])]; done)
            exact ih (i + 1) _ (by omega) (by omega) (by rw [eA0]; exact lv_sub hl [1, 2, 3, 0] rfl)
          · refine lv_lload_n hx hb dX0_criticalOf_40 rfl (lv_at hl 2 rfl) ?_
            refine lv_iload hx hb dX0_criticalOf_41 (lv_at hl 3 rfl) ?_
            refine eg_callS (As := [.int (nI i)]) (rest := [.long (cO an la v i)]) hx hb hml hown hts hK (c_X0_only l D cI cJ i (by omega)) (va_cwS 1 hts gX0_criticalOf_X0_only rfl rfl rfl (by decide +kernel) ⟨Nat.le_of_ble_eq_true rfl, Nat.le_of_ble_eq_true rfl⟩) rfl hl.1 rfl (Nat.le_of_ble_eq_true rfl) dX0_criticalOf_43 ⟨Nat.zero_le _, Nat.zero_le _⟩ ?_
            refine lv_lor hx hb dX0_criticalOf_46 ?_
            refine lv_lstore_n (lv' := [(3, .long ((cO an la v i) ||| (ol i))), (0, .ref (q 0)), (1, .long v), (5, .int (nI i))]) hx hb dX0_criticalOf_47 rfl hl (by decide) rfl (fun ls hl => ?_)
            refine lv_iinc (v := nI (i + 1)) (lv' := [(5, .int (nI (i + 1))), (3, .long ((cO an la v i) ||| (ol i))), (0, .ref (q 0)), (1, .long v)]) hx hb dX0_criticalOf_48 hl (k := 3) rfl (eg_inc1 _) (by decide) rfl (fun ls hl => ?_)
            refine lv_goto (tgt := 5) hx hb dX0_criticalOf_51 (by decide) ?_
            have eA0 : cO an la v (i + 1) = ((cO an la v i) ||| (ol i)) := by first | (rw [cO, if_pos ⟨c20, c36⟩]; done) | (rw [cO, if_neg (fun h => c36 h.2)]; done) | (rw [cO, if_neg (by simp [c20])]; done)
            exact ih (i + 1) _ (by omega) (by omega) (by rw [eA0]; exact lv_sub hl [2, 3, 1, 0] rfl)
  refine lv_lconst (v := 0) hx hb dX0_criticalOf_0 (by decide) ?_
  refine lv_lstore_n (lv' := [(3, .long 0), (0, .ref (q 0)), (1, .long v)]) hx hb dX0_criticalOf_1 rfl hl (by decide) rfl (fun ls hl => ?_)
  refine lv_iconst (v := nI 0) hx hb dX0_criticalOf_2 (by decide +kernel) ?_
  refine lv_istore (lv' := [(5, .int (nI 0)), (3, .long 0), (0, .ref (q 0)), (1, .long v)]) hx hb dX0_criticalOf_3 hl (by decide) rfl (fun ls hl => ?_)
  exact loop (n + 1) 0 _ (by omega) (by omega) (lv_sub hl [2, 3, 1, 0] rfl)
set_option maxHeartbeats 4000000 in
set_option maxRecDepth 100000 in
theorem c_X0_standingIn (l : Launch) (D : va_G) (cI cJ : ClassId) (q : Nat → Nat) (n : Nat) (mk lt tg : Nat → Int32) (pa an la kn : Nat → Int64) (fb : Int32) (fh nb te wt bh : Nat → Int32) (v : Int64) (hn : n ≤ 60) (hdl : ∀ k, k < n → bi v k = true → lt k = -1 → ∃ t, t < n ∧ tg k = nI t) : eg_MR D (tyL cI cJ) l yX0_standingIn wsX0_standingIn ({ frames := 2, cells := 0, slots := 0, locals := 42 }) [.ref (q 0), .long v] (wX q cI cJ (nI n) mk lt tg pa an la kn fb fh nb te wt bh) (some (.long (sdX lt tg v n))) := by
  refine Met.ofW (cc := cX0_standingIn) (maxL := 8) (ret := (some .long)) (by decide) rfl ?_
  intro p e s m args below meth c s₁ B hml hv
  obtain ⟨rfl, hP, hK⟩ := hv
  have hx := B.exec
  have hb := B.bytes
  have hr := B.returns
  have hts := atoms_spec (ws := wsX0_standingIn) B.pre
  have hown : s.vm.findClass RX0 = some m.cls := findClass_of_methodNamed B.named
  have hlocks := B.notSynchronized
  have hin : ∀ w ∈ u_ws RX0 TX0 14, w ∈ wsX0_standingIn := by decide +kernel
  have hl := lv_entry ([.ref (q 0), .long v]) (n := 8) (Nat.le_of_ble_eq_true rfl)
  rw [lg_entry_eq]
  generalize (lg_sl ([.ref (q 0), .long v]) ++ List.replicate (8 - (lg_sl ([.ref (q 0), .long v])).length) Slot.unset).toArray = ls at hl ⊢
  have hl : lv_has ls 8 [(0, .ref (q 0)), (1, .long v)] := hl
  have loop : ∀ (f i : Nat) (ls : Array Slot), n < i + f → i ≤ n → lv_has ls 8 [(0, .ref (q 0)), (1, .long v), (3, .long (sI lt v i)), (5, .long (sG lt tg v i)), (7, .int (nI i))] → W p l e (headSpec wsX0_standingIn ({ frames := 2, cells := 0, slots := 0, locals := 42 })).room s m ([.ref (q 0), .long v] : List Value).toArray below meth c s.heap [] 0 0 (MQ below (eg_R (some (.long (sdX lt tg v n)))) ([.ref (q 0), .long v] : List Value).toArray s 0 0 (fun _ => False)) (F0 m 8 ls []) := by
    intro f
    induction f with
    | zero => intro i  ls h1 h2 hl; omega
    | succ f ih =>
      intro i  ls h1 h2 hl
      refine lv_iload hx hb dX0_standingIn_8 (lv_at hl 4 rfl) ?_
      refine lv_aload_n hx hb dX0_standingIn_10 rfl (lv_at hl 0 rfl) ?_
      refine va_get (D := D) (ci := 0) (v := .int (nI n)) (C := RX0) (T := TX0) (N := 14) hx hb hts hin hown hK hP 0 rfl rfl 0 (by decide) (hts (.fieldLink RX0 7 "EditGraph" "eventCount" "I") (by decide +kernel)) (fun _ h9 => h9) rfl dX0_standingIn_11 ?_
      refine eg_icmp_ge (tgt := 67) hx hb dX0_standingIn_14 (by decide) (by omega) (by omega) (fun c14 => ?_) (fun c14 => ?_)
      · refine lv_lload_n hx hb dX0_standingIn_67 rfl (lv_at hl 2 rfl) ?_
        refine lv_lload hx hb dX0_standingIn_68 (lv_at hl 3 rfl) ?_
        refine lv_ldc2 hx hb hown (hts (.constantLong RX0 112 (-1)) (by decide +kernel)) dX0_standingIn_70 ?_
        refine lv_lxor hx hb dX0_standingIn_73 ?_
        refine lv_land hx hb dX0_standingIn_74 ?_
        exact W.lret hx hb hr (fun t9 ht9 _ => ⟨congrArg (fun z => Outcome.returned (some (Value.long z))) (by first | (rw [sdX, show n = i by omega]; done)), ht9⟩) (fun q h => nomatch h) dX0_standingIn_75
      · refine lv_lload_n hx hb dX0_standingIn_17 rfl (lv_at hl 1 rfl) ?_
        refine lv_iload hx hb dX0_standingIn_18 (lv_at hl 4 rfl) ?_
        refine eg_callS (As := [.long v, .int (nI i)]) (rest := []) hx hb hml hown hts hK (c_X0_has l D cI cJ v i (by omega)) (va_cwS 2 hts gX0_standingIn_X0_has rfl rfl rfl (by decide +kernel) ⟨Nat.le_of_ble_eq_true rfl, Nat.le_of_ble_eq_true rfl⟩) rfl hl.1 rfl (Nat.le_of_ble_eq_true rfl) dX0_standingIn_20 ⟨Nat.zero_le _, Nat.zero_le _⟩ ?_
        refine eg_ifeq_b (tgt := 61) hx hb dX0_standingIn_23 (by decide) (fun c23 => ?_) (fun c23 => ?_)
        · refine lv_iinc (v := nI (i + 1)) (lv' := [(7, .int (nI (i + 1))), (0, .ref (q 0)), (1, .long v), (3, .long (sI lt v i)), (5, .long (sG lt tg v i))]) hx hb dX0_standingIn_61 hl (k := 4) rfl (eg_inc1 _) (by decide) rfl (fun ls hl => ?_)
          refine lv_goto (tgt := 8) hx hb dX0_standingIn_64 (by decide) ?_
          have eA0 : sI lt v (i + 1) = sI lt v i := by first | (simp [sI, c23, c32]; done) | (simp [sI, c23]; done)
          have eA1 : sG lt tg v (i + 1) = sG lt tg v i := by first | (rw [sG, if_pos ⟨c23, c32⟩, c54]; done) | (simp [sG, c23, c32]; done) | (simp [sG, c23]; done)
          exact ih (i + 1) _ (by omega) (by omega) (by rw [eA0, eA1]; exact lv_sub hl [1, 2, 3, 4, 0] rfl)
        · refine lv_aload_n hx hb dX0_standingIn_26 rfl (lv_at hl 0 rfl) ?_
          refine lv_iload hx hb dX0_standingIn_27 (lv_at hl 4 rfl) ?_
          refine eg_callV (As := [.int (nI i)]) (rest := []) hx hb hml hown hts hK hP (c_X0_isInsert l D cI cJ q n mk lt tg pa an la kn fb fh nb te wt bh i (by omega)) (cwV 1 hts gX0_standingIn_X0_isInsert rfl rfl rfl (by decide +kernel) ⟨Nat.le_of_ble_eq_true rfl, Nat.le_of_ble_eq_true rfl⟩) (va_recv hK hP (ci := 0) (q0 := 0) rfl rfl) rfl hl.1 rfl (Nat.le_of_ble_eq_true rfl) dX0_standingIn_29 ⟨Nat.zero_le _, Nat.zero_le _⟩ ?_
          refine eg_ifeq_b (tgt := 46) hx hb dX0_standingIn_32 (by decide) (fun c32 => ?_) (fun c32 => ?_)
          · refine lv_lload hx hb dX0_standingIn_46 (lv_at hl 3 rfl) ?_
            refine lv_aload_n hx hb dX0_standingIn_48 rfl (lv_at hl 0 rfl) ?_
            refine va_get (D := D) (ci := 0) (v := .ref (q 3)) (C := RX0) (T := TX0) (N := 14) hx hb hts hin hown hK hP 0 rfl rfl 3 (by decide) (hts (.fieldLink RX0 20 "EditGraph" "targets" "[I") (by decide +kernel)) (fun _ h9 => h9) rfl dX0_standingIn_49 ?_
            refine lv_iload hx hb dX0_standingIn_52 (lv_at hl 4 rfl) ?_
            refine eg_iald hx hb hK hP 3 0 rfl rfl (by omega) (by decide) dX0_standingIn_54 ?_
            obtain ⟨t54, ht54, c54⟩ := hdl i (by omega) c23 (ins_eq c32)
            rw [c54]
            have c54 : ol t54 = ol (cl (tg i)) := by rw [c54, cl_nI (by omega)]
            refine eg_callS (As := [.int (nI t54)]) (rest := [.long (sG lt tg v i)]) hx hb hml hown hts hK (c_X0_only l D cI cJ t54 (by omega)) (va_cwS 1 hts gX0_standingIn_X0_only rfl rfl rfl (by decide +kernel) ⟨Nat.le_of_ble_eq_true rfl, Nat.le_of_ble_eq_true rfl⟩) rfl hl.1 rfl (Nat.le_of_ble_eq_true rfl) dX0_standingIn_55 ⟨Nat.zero_le _, Nat.zero_le _⟩ ?_
            refine lv_lor hx hb dX0_standingIn_58 ?_
            refine lv_lstore (lv' := [(5, .long ((sG lt tg v i) ||| (ol t54))), (0, .ref (q 0)), (1, .long v), (3, .long (sI lt v i)), (7, .int (nI i))]) hx hb dX0_standingIn_59 hl (by decide) rfl (fun ls hl => ?_)
            refine lv_iinc (v := nI (i + 1)) (lv' := [(7, .int (nI (i + 1))), (5, .long ((sG lt tg v i) ||| (ol t54))), (0, .ref (q 0)), (1, .long v), (3, .long (sI lt v i))]) hx hb dX0_standingIn_61 hl (k := 4) rfl (eg_inc1 _) (by decide) rfl (fun ls hl => ?_)
            refine lv_goto (tgt := 8) hx hb dX0_standingIn_64 (by decide) ?_
            have eA0 : sI lt v (i + 1) = sI lt v i := by first | (simp [sI, c23, c32]; done) | (simp [sI, c23]; done)
            have eA1 : sG lt tg v (i + 1) = ((sG lt tg v i) ||| (ol t54)) := by first | (rw [sG, if_pos ⟨c23, c32⟩, c54]; done) | (simp [sG, c23, c32]; done) | (simp [sG, c23]; done)
            exact ih (i + 1) _ (by omega) (by omega) (by rw [eA0, eA1]; exact lv_sub hl [2, 3, 4, 1, 0] rfl)
          · refine lv_lload_n hx hb dX0_standingIn_35 rfl (lv_at hl 2 rfl) ?_
            refine lv_iload hx hb dX0_standingIn_36 (lv_at hl 4 rfl) ?_
            refine eg_callS (As := [.int (nI i)]) (rest := [.long (sI lt v i)]) hx hb hml hown hts hK (c_X0_only l D cI cJ i (by omega)) (va_cwS 1 hts gX0_standingIn_X0_only rfl rfl rfl (by decide +kernel) ⟨Nat.le_of_ble_eq_true rfl, Nat.le_of_ble_eq_true rfl⟩) rfl hl.1 rfl (Nat.le_of_ble_eq_true rfl) dX0_standingIn_38 ⟨Nat.zero_le _, Nat.zero_le _⟩ ?_
            refine lv_lor hx hb dX0_standingIn_41 ?_
            refine lv_lstore_n (lv' := [(3, .long ((sI lt v i) ||| (ol i))), (0, .ref (q 0)), (1, .long v), (5, .long (sG lt tg v i)), (7, .int (nI i))]) hx hb dX0_standingIn_42 rfl hl (by decide) rfl (fun ls hl => ?_)
            refine lv_goto (tgt := 61) hx hb dX0_standingIn_43 (by decide) ?_
            refine lv_iinc (v := nI (i + 1)) (lv' := [(7, .int (nI (i + 1))), (3, .long ((sI lt v i) ||| (ol i))), (0, .ref (q 0)), (1, .long v), (5, .long (sG lt tg v i))]) hx hb dX0_standingIn_61 hl (k := 4) rfl (eg_inc1 _) (by decide) rfl (fun ls hl => ?_)
            refine lv_goto (tgt := 8) hx hb dX0_standingIn_64 (by decide) ?_
            have eA0 : sI lt v (i + 1) = ((sI lt v i) ||| (ol i)) := by first | (simp [sI, c23, c32]; done) | (simp [sI, c23]; done)
            have eA1 : sG lt tg v (i + 1) = sG lt tg v i := by first | (rw [sG, if_pos ⟨c23, c32⟩, c54]; done) | (simp [sG, c23, c32]; done) | (simp [sG, c23]; done)
            exact ih (i + 1) _ (by omega) (by omega) (by rw [eA0, eA1]; exact lv_sub hl [2, 3, 1, 4, 0] rfl)
  refine lv_lconst (v := 0) hx hb dX0_standingIn_0 (by decide) ?_
  refine lv_lstore_n (lv' := [(3, .long 0), (0, .ref (q 0)), (1, .long v)]) hx hb dX0_standingIn_1 rfl hl (by decide) rfl (fun ls hl => ?_)
  refine lv_lconst (v := 0) hx hb dX0_standingIn_2 (by decide) ?_
  refine lv_lstore (lv' := [(5, .long 0), (3, .long 0), (0, .ref (q 0)), (1, .long v)]) hx hb dX0_standingIn_3 hl (by decide) rfl (fun ls hl => ?_)
  refine lv_iconst (v := nI 0) hx hb dX0_standingIn_5 (by decide +kernel) ?_
  refine lv_istore (lv' := [(7, .int (nI 0)), (5, .long 0), (3, .long 0), (0, .ref (q 0)), (1, .long v)]) hx hb dX0_standingIn_6 hl (by decide) rfl (fun ls hl => ?_)
  exact loop (n + 1) 0 _ (by omega) (by omega) (lv_sub hl [3, 4, 2, 1, 0] rfl)
set_option maxHeartbeats 4000000 in
set_option maxRecDepth 100000 in
theorem c_X0_continuesRun (l : Launch) (D : va_G) (cI cJ : ClassId) (q : Nat → Nat) (n : Nat) (mk lt tg : Nat → Int32) (pa an la kn : Nat → Int64) (fb : Int32) (fh nb te wt bh : Nat → Int32) (i : Nat) (hn : n ≤ 60) (hi : i < n) : eg_MR D (tyL cI cJ) l yX0_continuesRun wsX0_continuesRun ({ frames := 1, cells := 0, slots := 0, locals := 21 }) [.ref (q 0), .int (nI i)] (wX q cI cJ (nI n) mk lt tg pa an la kn fb fh nb te wt bh) (some (.int (eb (cR n mk lt tg pa i)))) := by
  refine Met.ofW (cc := cX0_continuesRun) (maxL := 3) (ret := (some .boolean)) (by decide) rfl ?_
  intro p e s m args below meth c s₁ B hml hv
  obtain ⟨rfl, hP, hK⟩ := hv
  have hx := B.exec
  have hb := B.bytes
  have hr := B.returns
  have hts := atoms_spec (ws := wsX0_continuesRun) B.pre
  have hown : s.vm.findClass RX0 = some m.cls := findClass_of_methodNamed B.named
  have hlocks := B.notSynchronized
  have hin : ∀ w ∈ u_ws RX0 TX0 14, w ∈ wsX0_continuesRun := by decide +kernel
  have hl := lv_entry ([.ref (q 0), .int (nI i)]) (n := 3) (Nat.le_of_ble_eq_true rfl)
  rw [lg_entry_eq]
  generalize (lg_sl ([.ref (q 0), .int (nI i)]) ++ List.replicate (3 - (lg_sl ([.ref (q 0), .int (nI i)])).length) Slot.unset).toArray = ls at hl ⊢
  have hl : lv_has ls 3 [(0, .ref (q 0)), (1, .int (nI i))] := hl
  refine lv_aload_n hx hb dX0_continuesRun_0 rfl (lv_at hl 0 rfl) ?_
  refine va_get (D := D) (ci := 0) (v := .ref (q 3)) (C := RX0) (T := TX0) (N := 14) hx hb hts hin hown hK hP 0 rfl rfl 3 (by decide) (hts (.fieldLink RX0 20 "EditGraph" "targets" "[I") (by decide +kernel)) (fun _ h9 => h9) rfl dX0_continuesRun_1 ?_
  refine lv_iload_n hx hb dX0_continuesRun_4 rfl (lv_at hl 1 rfl) ?_
  refine eg_iald hx hb hK hP 3 0 rfl rfl (by omega) (by decide) dX0_continuesRun_5 ?_
  refine lv_istore_n (lv' := [(2, .int (tg i)), (0, .ref (q 0)), (1, .int (nI i))]) hx hb dX0_continuesRun_6 rfl hl (by decide) rfl (fun ls hl => ?_)
  refine lv_aload_n hx hb dX0_continuesRun_7 rfl (lv_at hl 1 rfl) ?_
  refine lv_iload_n hx hb dX0_continuesRun_8 rfl (lv_at hl 2 rfl) ?_
  refine eg_callV (As := [.int (nI i)]) (rest := []) hx hb hml hown hts hK hP (c_X0_isInsert l D cI cJ q n mk lt tg pa an la kn fb fh nb te wt bh i (by omega)) (cwV 1 hts gX0_continuesRun_X0_isInsert rfl rfl rfl (by decide +kernel) ⟨Nat.le_of_ble_eq_true rfl, Nat.le_of_ble_eq_true rfl⟩) (va_recv hK hP (ci := 0) (q0 := 0) rfl rfl) rfl hl.1 rfl (Nat.le_of_ble_eq_true rfl) dX0_continuesRun_9 ⟨Nat.zero_le _, Nat.zero_le _⟩ ?_
  refine eg_ifeq_b (tgt := 56) hx hb dX0_continuesRun_12 (by decide) (fun c12 => ?_) (fun c12 => ?_)
  · refine lv_iconst (v := nI 0) hx hb dX0_continuesRun_56 (by decide +kernel) ?_
    exact W.zret hx hb hr (by first | rfl | exact eb_nar) (fun t9 ht9 _ => ⟨congrArg (fun z => Outcome.returned (some (Value.int z))) (by first | (refine eb_z ?_; simp [cR, c12]; done) | (refine eb_z ?_; simp [cR, c12, c20]; done) | (refine eb_z ?_; rw [cR, c12, c20, eT, cl_nI (show t < 2 ^ 31 by omega)]; simp [c33]; done) | (refine eb_z ?_; rw [cR, c12, c20, eT, cl_nI (show t < 2 ^ 31 by omega)]; simp [c49]; done) | (refine eb_1 ?_; rw [cR, c12, c20, eT, cl_nI (show t < 2 ^ 31 by omega)]; simp [c33, c49]; done)), ht9⟩) (fun q h => nomatch h) dX0_continuesRun_57
  · refine lv_aload_n hx hb dX0_continuesRun_15 rfl (lv_at hl 1 rfl) ?_
    refine lv_iload_n hx hb dX0_continuesRun_16 rfl (lv_at hl 0 rfl) ?_
    refine eg_callV (As := [.int (tg i)]) (rest := []) hx hb hml hown hts hK hP (c_X0_isEvent l D cI cJ q n mk lt tg pa an la kn fb fh nb te wt bh (tg i) ) (cwV 1 hts gX0_continuesRun_X0_isEvent rfl rfl rfl (by decide +kernel) ⟨Nat.le_of_ble_eq_true rfl, Nat.le_of_ble_eq_true rfl⟩) (va_recv hK hP (ci := 0) (q0 := 0) rfl rfl) rfl hl.1 rfl (Nat.le_of_ble_eq_true rfl) dX0_continuesRun_17 ⟨Nat.zero_le _, Nat.zero_le _⟩ ?_
    refine eg_ifeq_b (tgt := 56) hx hb dX0_continuesRun_20 (by decide) (fun c20 => ?_) (fun c20 => ?_)
    · refine lv_iconst (v := nI 0) hx hb dX0_continuesRun_56 (by decide +kernel) ?_
      exact W.zret hx hb hr (by first | rfl | exact eb_nar) (fun t9 ht9 _ => ⟨congrArg (fun z => Outcome.returned (some (Value.int z))) (by first | (refine eb_z ?_; simp [cR, c12]; done) | (refine eb_z ?_; simp [cR, c12, c20]; done) | (refine eb_z ?_; rw [cR, c12, c20, eT, cl_nI (show t < 2 ^ 31 by omega)]; simp [c33]; done) | (refine eb_z ?_; rw [cR, c12, c20, eT, cl_nI (show t < 2 ^ 31 by omega)]; simp [c49]; done) | (refine eb_1 ?_; rw [cR, c12, c20, eT, cl_nI (show t < 2 ^ 31 by omega)]; simp [c33, c49]; done)), ht9⟩) (fun q h => nomatch h) dX0_continuesRun_57
    · obtain ⟨t, htn, eT⟩ := ev_of (by omega) c20
      have hl : lv_has ls 3 [(2, .int (nI t)), (0, .ref (q 0)), (1, .int (nI i))] := by rw [← eT]; exact hl
      refine lv_aload_n hx hb dX0_continuesRun_23 rfl (lv_at hl 1 rfl) ?_
      refine va_get (D := D) (ci := 0) (v := .ref (q 4)) (C := RX0) (T := TX0) (N := 14) hx hb hts hin hown hK hP 0 rfl rfl 4 (by decide) (hts (.fieldLink RX0 23 "EditGraph" "parentSets" "[J") (by decide +kernel)) (fun _ h9 => h9) rfl dX0_continuesRun_24 ?_
      refine lv_iload_n hx hb dX0_continuesRun_27 rfl (lv_at hl 2 rfl) ?_
      refine eg_lald hx hb hK hP 4 1 rfl rfl (by omega) (by decide) dX0_continuesRun_28 ?_
      refine lv_iload_n hx hb dX0_continuesRun_29 rfl (lv_at hl 0 rfl) ?_
      refine eg_callS (As := [.int (nI t)]) (rest := [.long (pa i)]) hx hb hml hown hts hK (c_X0_only l D cI cJ t (by omega)) (va_cwS 1 hts gX0_continuesRun_X0_only rfl rfl rfl (by decide +kernel) ⟨Nat.le_of_ble_eq_true rfl, Nat.le_of_ble_eq_true rfl⟩) rfl hl.1 rfl (Nat.le_of_ble_eq_true rfl) dX0_continuesRun_30 ⟨Nat.zero_le _, Nat.zero_le _⟩ ?_
      refine eg_lcmp_ne (tgt := 56) hx hb dX0_continuesRun_33 rfl dX0_continuesRun_34 (by decide) (fun c33 => ?_) (fun c33 => ?_)
      · refine lv_iconst (v := nI 0) hx hb dX0_continuesRun_56 (by decide +kernel) ?_
        exact W.zret hx hb hr (by first | rfl | exact eb_nar) (fun t9 ht9 _ => ⟨congrArg (fun z => Outcome.returned (some (Value.int z))) (by first | (refine eb_z ?_; simp [cR, c12]; done) | (refine eb_z ?_; simp [cR, c12, c20]; done) | (refine eb_z ?_; rw [cR, c12, c20, eT, cl_nI (show t < 2 ^ 31 by omega)]; simp [c33]; done) | (refine eb_z ?_; rw [cR, c12, c20, eT, cl_nI (show t < 2 ^ 31 by omega)]; simp [c49]; done) | (refine eb_1 ?_; rw [cR, c12, c20, eT, cl_nI (show t < 2 ^ 31 by omega)]; simp [c33, c49]; done)), ht9⟩) (fun q h => nomatch h) dX0_continuesRun_57
      · refine lv_aload_n hx hb dX0_continuesRun_37 rfl (lv_at hl 1 rfl) ?_
        refine va_get (D := D) (ci := 0) (v := .ref (q 1)) (C := RX0) (T := TX0) (N := 14) hx hb hts hin hown hK hP 0 rfl rfl 1 (by decide) (hts (.fieldLink RX0 13 "EditGraph" "makers" "[I") (by decide +kernel)) (fun _ h9 => h9) rfl dX0_continuesRun_38 ?_
        refine lv_iload_n hx hb dX0_continuesRun_41 rfl (lv_at hl 2 rfl) ?_
        refine eg_iald hx hb hK hP 1 0 rfl rfl (by omega) (by decide) dX0_continuesRun_42 ?_
        refine lv_aload_n hx hb dX0_continuesRun_43 rfl (lv_at hl 1 rfl) ?_
        refine va_get (D := D) (ci := 0) (v := .ref (q 1)) (C := RX0) (T := TX0) (N := 14) hx hb hts hin hown hK hP 0 rfl rfl 1 (by decide) (hts (.fieldLink RX0 13 "EditGraph" "makers" "[I") (by decide +kernel)) (fun _ h9 => h9) rfl dX0_continuesRun_44 ?_
        refine lv_iload_n hx hb dX0_continuesRun_47 rfl (lv_at hl 0 rfl) ?_
        refine eg_iald hx hb hK hP 1 0 rfl rfl (by omega) (by decide) dX0_continuesRun_48 ?_
        refine lv_icmp_ne (tgt := 56) hx hb dX0_continuesRun_49 (by decide) (fun c49 => ?_) (fun c49 => ?_)
        · refine lv_iconst (v := nI 0) hx hb dX0_continuesRun_56 (by decide +kernel) ?_
          exact W.zret hx hb hr (by first | rfl | exact eb_nar) (fun t9 ht9 _ => ⟨congrArg (fun z => Outcome.returned (some (Value.int z))) (by first | (refine eb_z ?_; simp [cR, c12]; done) | (refine eb_z ?_; simp [cR, c12, c20]; done) | (refine eb_z ?_; rw [cR, c12, c20, eT, cl_nI (show t < 2 ^ 31 by omega)]; simp [c33]; done) | (refine eb_z ?_; rw [cR, c12, c20, eT, cl_nI (show t < 2 ^ 31 by omega)]; simp [c49]; done) | (refine eb_1 ?_; rw [cR, c12, c20, eT, cl_nI (show t < 2 ^ 31 by omega)]; simp [c33, c49]; done)), ht9⟩) (fun q h => nomatch h) dX0_continuesRun_57
        · refine lv_iconst (v := nI 1) hx hb dX0_continuesRun_52 (by decide +kernel) ?_
          refine lv_goto (tgt := 57) hx hb dX0_continuesRun_53 (by decide) ?_
          exact W.zret hx hb hr (by first | rfl | exact eb_nar) (fun t9 ht9 _ => ⟨congrArg (fun z => Outcome.returned (some (Value.int z))) (by first | (refine eb_z ?_; simp [cR, c12]; done) | (refine eb_z ?_; simp [cR, c12, c20]; done) | (refine eb_z ?_; rw [cR, c12, c20, eT, cl_nI (show t < 2 ^ 31 by omega)]; simp [c33]; done) | (refine eb_z ?_; rw [cR, c12, c20, eT, cl_nI (show t < 2 ^ 31 by omega)]; simp [c49]; done) | (refine eb_1 ?_; rw [cR, c12, c20, eT, cl_nI (show t < 2 ^ 31 by omega)]; simp [c33, c49]; done)), ht9⟩) (fun q h => nomatch h) dX0_continuesRun_57
end
section
-- THE CLASS: its writers (by gen.py, specW.py)
set_option maxHeartbeats 4000000 in
set_option maxRecDepth 100000 in
theorem c_X0_markLater (l : Launch) (D : va_G) (cI cJ : ClassId) (q : Nat → Nat) (n : Nat) (mk lt tg : Nat → Int32) (pa an la kn : Nat → Int64) (fb : Int32) (fh nb te wt bh : Nat → Int32) (v : Int64) (j : Nat) (hn : n ≤ 60) (hj : j < 64) : eg_MW D (tyL cI cJ) l yX0_markLater wsX0_markLater ({ frames := 2, cells := 0, slots := 0, locals := 42 }) 0 0 [.ref (q 0), .long v, .int (nI j)] (wX q cI cJ (nI n) mk lt tg pa an la kn fb fh nb te wt bh) (fun r w1 => r = none ∧ w1 = wX q cI cJ (nI n) mk lt tg pa an (mL la v j n) kn fb fh nb te wt bh) := by
  refine Met.ofW (cc := cX0_markLater) (maxL := 5) (ret := none) (by decide) rfl ?_
  intro p e s m args below meth c s₁ B hml hv
  obtain ⟨rfl, hP, hK, hD0⟩ := hv
  have hx := B.exec
  have hb := B.bytes
  have hr := B.returns
  have hts := atoms_spec (ws := wsX0_markLater) B.pre
  have hown : s.vm.findClass RX0 = some m.cls := findClass_of_methodNamed B.named
  have hlocks := B.notSynchronized
  have hD := eg_D_of hD0
  have hS : va_S (eg_A (wX q cI cJ (nI n) mk lt tg pa an la kn fb fh nb te wt bh)) s.heap s.heap [] := va_S.rf
  have hin : ∀ w ∈ u_ws RX0 TX0 14, w ∈ wsX0_markLater := by decide +kernel
  have hl := lv_entry ([.ref (q 0), .long v, .int (nI j)]) (n := 5) (Nat.le_of_ble_eq_true rfl)
  rw [lg_entry_eq]
  generalize (lg_sl ([.ref (q 0), .long v, .int (nI j)]) ++ List.replicate (5 - (lg_sl ([.ref (q 0), .long v, .int (nI j)])).length) Slot.unset).toArray = ls at hl ⊢
  have hl : lv_has ls 5 [(0, .ref (q 0)), (1, .long v), (3, .int (nI j))] := hl
  generalize h0H : s.heap = H at hP ⊢
  have hS : va_S (eg_A (wX q cI cJ (nI n) mk lt tg pa an la kn fb fh nb te wt bh)) s.heap H [] := by rw [← h0H]; exact hS
  generalize ([] : List Loc) = locs at hS ⊢
  have loop : ∀ (f i : Nat) (H : Heap) (locs : List Loc) (ls : Array Slot), n < i + f → i ≤ n → va_P D vwCl (wX q cI cJ (nI n) mk lt tg pa an (mL la v j i) kn fb fh nb te wt bh) H → va_S (eg_A (wX q cI cJ (nI n) mk lt tg pa an la kn fb fh nb te wt bh)) s.heap H locs → lv_has ls 5 [(0, .ref (q 0)), (1, .long v), (3, .int (nI j)), (4, .int (nI i))] → W p l e (headSpec wsX0_markLater ({ frames := 2, cells := 0, slots := 0, locals := 42 })).room s m ([.ref (q 0), .long v, .int (nI j)] : List Value).toArray below meth c H locs 0 0 (MQ below (eg_Wq D (wX q cI cJ (nI n) mk lt tg pa an la kn fb fh nb te wt bh) (fun r w1 => r = none ∧ w1 = wX q cI cJ (nI n) mk lt tg pa an (mL la v j n) kn fb fh nb te wt bh)) ([.ref (q 0), .long v, .int (nI j)] : List Value).toArray s 0 0 (eg_A (wX q cI cJ (nI n) mk lt tg pa an la kn fb fh nb te wt bh))) (F0 m 3 ls []) := by
    intro f
    induction f with
    | zero => intro i  H locs ls h1 h2 hP hS hl; omega
    | succ f ih =>
      intro i  H locs ls h1 h2 hP hS hl
      refine lv_iload hx hb dX0_markLater_3 (lv_at hl 3 rfl) ?_
      refine lv_aload_n hx hb dX0_markLater_5 rfl (lv_at hl 0 rfl) ?_
      refine va_get (D := D) (ci := 0) (v := .int (nI n)) (C := RX0) (T := TX0) (N := 14) hx hb hts hin hown hK hP 0 rfl rfl 0 (by decide) (hts (.fieldLink RX0 7 "EditGraph" "eventCount" "I") (by decide +kernel)) (fun _ h9 => h9) rfl dX0_markLater_6 ?_
      refine eg_icmp_ge (tgt := 41) hx hb dX0_markLater_9 (by decide) (by omega) (by omega) (fun c9 => ?_) (fun c9 => ?_)
      · have ein : i = n := by omega
        rw [ein] at hP
        exact W.vret hx hb hr (fun t9 ht9 _ => ⟨none, (wX q cI cJ (nI n) mk lt tg pa an (mL la v j n) kn fb fh nb te wt bh), rfl, ⟨rfl, rfl⟩, rfl, by rw [ht9]; exact hP, hS.F ht9⟩) hS.2.2 dX0_markLater_41
      · refine lv_lload_n hx hb dX0_markLater_12 rfl (lv_at hl 1 rfl) ?_
        refine lv_iload hx hb dX0_markLater_13 (lv_at hl 3 rfl) ?_
        refine eg_callS (As := [.long v, .int (nI i)]) (rest := []) hx hb hml hown hts hK (c_X0_has l D cI cJ v i (by omega)) (va_cwS 2 hts gX0_markLater_X0_has rfl rfl rfl (by decide +kernel) ⟨Nat.le_of_ble_eq_true rfl, Nat.le_of_ble_eq_true rfl⟩) rfl hl.1 rfl (Nat.le_of_ble_eq_true rfl) dX0_markLater_15 ⟨Nat.zero_le _, Nat.zero_le _⟩ ?_
        refine eg_ifeq_b (tgt := 35) hx hb dX0_markLater_18 (by decide) (fun c18 => ?_) (fun c18 => ?_)
        · refine lv_iinc (v := nI (i + 1)) (lv' := [(4, .int (nI (i + 1))), (0, .ref (q 0)), (1, .long v), (3, .int (nI j))]) hx hb dX0_markLater_35 hl (k := 3) rfl (eg_inc1 _) (by decide) rfl (fun ls hl => ?_)
          refine lv_goto (tgt := 3) hx hb dX0_markLater_38 (by decide) ?_
          rw [mL_f c18] at hP
          exact ih (i + 1) H locs _ (by omega) (by omega) hP hS (lv_sub hl [1, 2, 3, 0] rfl)
        · refine lv_aload_n hx hb dX0_markLater_21 rfl (lv_at hl 0 rfl) ?_
          refine va_get (D := D) (ci := 0) (v := .ref (q 6)) (C := RX0) (T := TX0) (N := 14) hx hb hts hin hown hK hP 0 rfl rfl 6 (by decide) (hts (.fieldLink RX0 30 "EditGraph" "laterSets" "[J") (by decide +kernel)) (fun _ h9 => h9) rfl dX0_markLater_22 ?_
          refine lv_iload hx hb dX0_markLater_25 (lv_at hl 3 rfl) ?_
          refine lv_dup2_11 hx hb dX0_markLater_27 rfl rfl ?_
          refine eg_lald hx hb hK hP 6 1 rfl rfl (by omega) (by decide) dX0_markLater_28 ?_
          refine lv_iload_n hx hb dX0_markLater_29 rfl (lv_at hl 2 rfl) ?_
          refine eg_callS (As := [.int (nI j)]) (rest := [.long ((mL la v j i) i), .int (nI i), .ref (q 6)]) hx hb hml hown hts hK (c_X0_only l D cI cJ j hj) (va_cwS 1 hts gX0_markLater_X0_only rfl rfl rfl (by decide +kernel) ⟨Nat.le_of_ble_eq_true rfl, Nat.le_of_ble_eq_true rfl⟩) rfl hl.1 rfl (Nat.le_of_ble_eq_true rfl) dX0_markLater_30 ⟨Nat.zero_le _, Nat.zero_le _⟩ ?_
          refine lv_lor hx hb dX0_markLater_33 ?_
          refine eg_last hx hb hK hP hD rfl hS 6 1 rfl rfl (by omega) (by decide) dX0_markLater_34 (w' := wX q cI cJ (nI n) mk lt tg pa an (vp_updL (mL la v j i) i (((mL la v j i) i) ||| (ol j))) kn fb fh nb te wt bh) rfl (fun H locs hP hS => ?_)
          refine lv_iinc (v := nI (i + 1)) (lv' := [(4, .int (nI (i + 1))), (0, .ref (q 0)), (1, .long v), (3, .int (nI j))]) hx hb dX0_markLater_35 hl (k := 3) rfl (eg_inc1 _) (by decide) rfl (fun ls hl => ?_)
          refine lv_goto (tgt := 3) hx hb dX0_markLater_38 (by decide) ?_
          rw [mL_t c18] at hP
          exact ih (i + 1) H locs _ (by omega) (by omega) hP hS (lv_sub hl [1, 2, 3, 0] rfl)
  refine lv_iconst (v := nI 0) hx hb dX0_markLater_0 (by decide +kernel) ?_
  refine lv_istore (lv' := [(4, .int (nI 0)), (0, .ref (q 0)), (1, .long v), (3, .int (nI j))]) hx hb dX0_markLater_1 hl (by decide) rfl (fun ls hl => ?_)
  rw [← mL_0 la v j] at hP
  exact loop (n + 1) 0 H locs _ (by omega) (by omega) hP hS (lv_sub hl [1, 2, 3, 0] rfl)
set_option maxHeartbeats 4000000 in
set_option maxRecDepth 100000 in
theorem c_X0_addEvent (l : Launch) (D : va_G) (cI cJ : ClassId) (q : Nat → Nat) (n : Nat) (mk lt tg : Nat → Int32) (pa an la kn : Nat → Int64) (fb : Int32) (fh nb te wt bh : Nat → Int32) (a : Nat) (lc : Int32) (t : Int32) (hn : n < 60) (ha : a < 4) : eg_MW D (tyL cI cJ) l yX0_addEvent wsX0_addEvent ({ frames := 3, cells := 0, slots := 0, locals := 67 }) 0 0 [.ref (q 0), .int (nI a), .int lc, .int t] (wX q cI cJ (nI n) mk lt tg pa an la kn fb fh nb te wt bh) (fun r w1 => r = some (.int (nI n)) ∧ w1 = wX q cI cJ (nI (n + 1)) (upd mk n (nI a)) (upd lt n lc) (upd tg n t) (vp_updL pa n (hdX pa (kn a) n)) (vp_updL an n (kn a)) (mL la (kn a) n n) (vp_updL kn a (kn a ||| ol n)) fb fh nb te wt bh) := by
  refine Met.ofW (cc := cX0_addEvent) (maxL := 7) (ret := (some .int)) (by decide) rfl ?_
  intro p e s m args below meth c s₁ B hml hv
  obtain ⟨rfl, hP, hK, hD0⟩ := hv
  have hx := B.exec
  have hb := B.bytes
  have hr := B.returns
  have hts := atoms_spec (ws := wsX0_addEvent) B.pre
  have hown : s.vm.findClass RX0 = some m.cls := findClass_of_methodNamed B.named
  have hlocks := B.notSynchronized
  have hD := eg_D_of hD0
  have hS : va_S (eg_A (wX q cI cJ (nI n) mk lt tg pa an la kn fb fh nb te wt bh)) s.heap s.heap [] := va_S.rf
  have hin : ∀ w ∈ u_ws RX0 TX0 14, w ∈ wsX0_addEvent := by decide +kernel
  have hl := lv_entry ([.ref (q 0), .int (nI a), .int lc, .int t]) (n := 7) (Nat.le_of_ble_eq_true rfl)
  rw [lg_entry_eq]
  generalize (lg_sl ([.ref (q 0), .int (nI a), .int lc, .int t]) ++ List.replicate (7 - (lg_sl ([.ref (q 0), .int (nI a), .int lc, .int t])).length) Slot.unset).toArray = ls at hl ⊢
  have hl : lv_has ls 7 [(0, .ref (q 0)), (1, .int (nI a)), (2, .int lc), (3, .int t)] := hl
  generalize h0H : s.heap = H at hP ⊢
  have hS : va_S (eg_A (wX q cI cJ (nI n) mk lt tg pa an la kn fb fh nb te wt bh)) s.heap H [] := by rw [← h0H]; exact hS
  generalize ([] : List Loc) = locs at hS ⊢
  refine lv_aload_n hx hb dX0_addEvent_0 rfl (lv_at hl 0 rfl) ?_
  refine va_get (D := D) (ci := 0) (v := .int (nI n)) (C := RX0) (T := TX0) (N := 14) hx hb hts hin hown hK hP 0 rfl rfl 0 (by decide) (hts (.fieldLink RX0 7 "EditGraph" "eventCount" "I") (by decide +kernel)) (fun _ h9 => h9) rfl dX0_addEvent_1 ?_
  refine lv_istore (lv' := [(4, .int (nI n)), (0, .ref (q 0)), (1, .int (nI a)), (2, .int lc), (3, .int t)]) hx hb dX0_addEvent_4 hl (by decide) rfl (fun ls hl => ?_)
  refine lv_aload_n hx hb dX0_addEvent_6 rfl (lv_at hl 1 rfl) ?_
  refine va_get (D := D) (ci := 0) (v := .ref (q 7)) (C := RX0) (T := TX0) (N := 14) hx hb hts hin hown hK hP 0 rfl rfl 7 (by decide) (hts (.fieldLink RX0 33 "EditGraph" "knownSets" "[J") (by decide +kernel)) (fun _ h9 => h9) rfl dX0_addEvent_7 ?_
  refine lv_iload_n hx hb dX0_addEvent_10 rfl (lv_at hl 2 rfl) ?_
  refine eg_lald hx hb hK hP 7 1 rfl rfl (by omega) (by decide) dX0_addEvent_11 ?_
  refine lv_lstore (lv' := [(5, .long (kn a)), (4, .int (nI n)), (0, .ref (q 0)), (1, .int (nI a)), (2, .int lc), (3, .int t)]) hx hb dX0_addEvent_12 hl (by decide) rfl (fun ls hl => ?_)
  refine lv_aload_n hx hb dX0_addEvent_14 rfl (lv_at hl 2 rfl) ?_
  refine va_get (D := D) (ci := 0) (v := .ref (q 1)) (C := RX0) (T := TX0) (N := 14) hx hb hts hin hown hK hP 0 rfl rfl 1 (by decide) (hts (.fieldLink RX0 13 "EditGraph" "makers" "[I") (by decide +kernel)) (fun _ h9 => h9) rfl dX0_addEvent_15 ?_
  refine lv_iload hx hb dX0_addEvent_18 (lv_at hl 1 rfl) ?_
  refine lv_iload_n hx hb dX0_addEvent_20 rfl (lv_at hl 3 rfl) ?_
  refine eg_iast hx hb hK hP hD rfl hS 1 0 rfl rfl (by omega) (by decide) dX0_addEvent_21 (w' := wX q cI cJ (nI n) (upd mk n (nI a)) lt tg pa an la kn fb fh nb te wt bh) rfl (fun H locs hP hS => ?_)
  refine lv_aload_n hx hb dX0_addEvent_22 rfl (lv_at hl 2 rfl) ?_
  refine va_get (D := D) (ci := 0) (v := .ref (q 2)) (C := RX0) (T := TX0) (N := 14) hx hb hts hin hown hK hP 0 rfl rfl 2 (by decide) (hts (.fieldLink RX0 17 "EditGraph" "letters" "[I") (by decide +kernel)) (fun _ h9 => h9) rfl dX0_addEvent_23 ?_
  refine lv_iload hx hb dX0_addEvent_26 (lv_at hl 1 rfl) ?_
  refine lv_iload_n hx hb dX0_addEvent_28 rfl (lv_at hl 4 rfl) ?_
  refine eg_iast hx hb hK hP hD rfl hS 2 0 rfl rfl (by omega) (by decide) dX0_addEvent_29 (w' := wX q cI cJ (nI n) (upd mk n (nI a)) (upd lt n lc) tg pa an la kn fb fh nb te wt bh) rfl (fun H locs hP hS => ?_)
  refine lv_aload_n hx hb dX0_addEvent_30 rfl (lv_at hl 2 rfl) ?_
  refine va_get (D := D) (ci := 0) (v := .ref (q 3)) (C := RX0) (T := TX0) (N := 14) hx hb hts hin hown hK hP 0 rfl rfl 3 (by decide) (hts (.fieldLink RX0 20 "EditGraph" "targets" "[I") (by decide +kernel)) (fun _ h9 => h9) rfl dX0_addEvent_31 ?_
  refine lv_iload hx hb dX0_addEvent_34 (lv_at hl 1 rfl) ?_
  refine lv_iload_n hx hb dX0_addEvent_36 rfl (lv_at hl 5 rfl) ?_
  refine eg_iast hx hb hK hP hD rfl hS 3 0 rfl rfl (by omega) (by decide) dX0_addEvent_37 (w' := wX q cI cJ (nI n) (upd mk n (nI a)) (upd lt n lc) (upd tg n t) pa an la kn fb fh nb te wt bh) rfl (fun H locs hP hS => ?_)
  refine lv_aload_n hx hb dX0_addEvent_38 rfl (lv_at hl 2 rfl) ?_
  refine va_get (D := D) (ci := 0) (v := .ref (q 4)) (C := RX0) (T := TX0) (N := 14) hx hb hts hin hown hK hP 0 rfl rfl 4 (by decide) (hts (.fieldLink RX0 23 "EditGraph" "parentSets" "[J") (by decide +kernel)) (fun _ h9 => h9) rfl dX0_addEvent_39 ?_
  refine lv_iload hx hb dX0_addEvent_42 (lv_at hl 1 rfl) ?_
  refine lv_aload_n hx hb dX0_addEvent_44 rfl (lv_at hl 2 rfl) ?_
  refine lv_lload hx hb dX0_addEvent_45 (lv_at hl 0 rfl) ?_
  refine eg_callV (As := [.long (kn a)]) (rest := [.int (nI n), .ref (q 4)]) hx hb hml hown hts hK hP (c_X0_headsOf l D cI cJ q n (upd mk n (nI a)) (upd lt n lc) (upd tg n t) pa an la kn fb fh nb te wt bh (kn a) (by omega)) (cwV 1 hts gX0_addEvent_X0_headsOf rfl rfl rfl (by decide +kernel) ⟨Nat.le_of_ble_eq_true rfl, Nat.le_of_ble_eq_true rfl⟩) (va_recv hK hP (ci := 0) (q0 := 0) rfl rfl) rfl hl.1 rfl (Nat.le_of_ble_eq_true rfl) dX0_addEvent_47 ⟨Nat.zero_le _, Nat.zero_le _⟩ ?_
  refine eg_last hx hb hK hP hD rfl hS 4 1 rfl rfl (by omega) (by decide) dX0_addEvent_50 (w' := wX q cI cJ (nI n) (upd mk n (nI a)) (upd lt n lc) (upd tg n t) (vp_updL pa n (hdX pa (kn a) n)) an la kn fb fh nb te wt bh) rfl (fun H locs hP hS => ?_)
  refine lv_aload_n hx hb dX0_addEvent_51 rfl (lv_at hl 2 rfl) ?_
  refine va_get (D := D) (ci := 0) (v := .ref (q 5)) (C := RX0) (T := TX0) (N := 14) hx hb hts hin hown hK hP 0 rfl rfl 5 (by decide) (hts (.fieldLink RX0 27 "EditGraph" "ancestorSets" "[J") (by decide +kernel)) (fun _ h9 => h9) rfl dX0_addEvent_52 ?_
  refine lv_iload hx hb dX0_addEvent_55 (lv_at hl 1 rfl) ?_
  refine lv_lload hx hb dX0_addEvent_57 (lv_at hl 0 rfl) ?_
  refine eg_last hx hb hK hP hD rfl hS 5 1 rfl rfl (by omega) (by decide) dX0_addEvent_59 (w' := wX q cI cJ (nI n) (upd mk n (nI a)) (upd lt n lc) (upd tg n t) (vp_updL pa n (hdX pa (kn a) n)) (vp_updL an n (kn a)) la kn fb fh nb te wt bh) rfl (fun H locs hP hS => ?_)
  refine lv_aload_n hx hb dX0_addEvent_60 rfl (lv_at hl 2 rfl) ?_
  refine lv_lload hx hb dX0_addEvent_61 (lv_at hl 0 rfl) ?_
  refine lv_iload hx hb dX0_addEvent_63 (lv_at hl 1 rfl) ?_
  refine eg_callWV (As := [.long (kn a), .int (nI n)]) (rest := []) hx hb hml hown hts hK hP hD rfl hS (c_X0_markLater l D cI cJ q n (upd mk n (nI a)) (upd lt n lc) (upd tg n t) (vp_updL pa n (hdX pa (kn a) n)) (vp_updL an n (kn a)) la kn fb fh nb te wt bh (kn a) n (by omega) (by omega)) (cwV 2 hts gX0_addEvent_X0_markLater rfl rfl rfl (by decide +kernel) ⟨Nat.le_of_ble_eq_true rfl, Nat.le_of_ble_eq_true rfl⟩) (va_recv hK hP (ci := 0) (q0 := 0) rfl rfl) rfl hl.1 rfl (Nat.le_of_ble_eq_true rfl) dX0_addEvent_65 ⟨Nat.zero_le _, Nat.zero_le _⟩ (fun v9 w9 H locs hR9 hw9 hP hS => ?_)
  obtain ⟨rfl, rfl⟩ := hR9
  refine lv_aload_n hx hb dX0_addEvent_68 rfl (lv_at hl 2 rfl) ?_
  refine va_get (D := D) (ci := 0) (v := .ref (q 7)) (C := RX0) (T := TX0) (N := 14) hx hb hts hin hown hK hP 0 rfl rfl 7 (by decide) (hts (.fieldLink RX0 33 "EditGraph" "knownSets" "[J") (by decide +kernel)) (fun _ h9 => h9) rfl dX0_addEvent_69 ?_
  refine lv_iload_n hx hb dX0_addEvent_72 rfl (lv_at hl 3 rfl) ?_
  refine lv_lload hx hb dX0_addEvent_73 (lv_at hl 0 rfl) ?_
  refine lv_iload hx hb dX0_addEvent_75 (lv_at hl 1 rfl) ?_
  refine eg_callS (As := [.int (nI n)]) (rest := [.long (kn a), .int (nI a), .ref (q 7)]) hx hb hml hown hts hK (c_X0_only l D cI cJ n (by omega)) (va_cwS 1 hts gX0_addEvent_X0_only rfl rfl rfl (by decide +kernel) ⟨Nat.le_of_ble_eq_true rfl, Nat.le_of_ble_eq_true rfl⟩) rfl hl.1 rfl (Nat.le_of_ble_eq_true rfl) dX0_addEvent_77 ⟨Nat.zero_le _, Nat.zero_le _⟩ ?_
  refine lv_lor hx hb dX0_addEvent_80 ?_
  refine eg_last hx hb hK hP hD rfl hS 7 1 rfl rfl (by omega) (by decide) dX0_addEvent_81 (w' := wX q cI cJ (nI n) (upd mk n (nI a)) (upd lt n lc) (upd tg n t) (vp_updL pa n (hdX pa (kn a) n)) (vp_updL an n (kn a)) (mL la (kn a) n n) (vp_updL kn a ((kn a) ||| (ol n))) fb fh nb te wt bh) rfl (fun H locs hP hS => ?_)
  refine lv_aload_n hx hb dX0_addEvent_82 rfl (lv_at hl 2 rfl) ?_
  refine lv_dup hx hb dX0_addEvent_83 rfl ?_
  refine va_get (D := D) (ci := 0) (v := .int (nI n)) (C := RX0) (T := TX0) (N := 14) hx hb hts hin hown hK hP 0 rfl rfl 0 (by decide) (hts (.fieldLink RX0 7 "EditGraph" "eventCount" "I") (by decide +kernel)) (fun _ h9 => h9) rfl dX0_addEvent_84 ?_
  refine lv_iconst (v := nI 1) hx hb dX0_addEvent_87 (by decide +kernel) ?_
  refine eg_iadd hx hb dX0_addEvent_88 ?_
  refine va_put (D := D) (ci := 0) (v := .int (nI (n + 1))) (ty := .int) (C := RX0) (T := TX0) (N := 14) hx hb hts hin tyX0 tyX0_ok nmX0 hown hK hP (eg_D_same hD rfl) hS 0 rfl rfl 0 (by decide) (hts (.fieldLink RX0 7 "EditGraph" "eventCount" "I") (by decide +kernel)) (fun _ h9 => h9) rfl (by decide +kernel) rfl rfl (Nat.le_of_ble_eq_true rfl) dX0_addEvent_89 (fun H locs hP _ hS => ?_)
  have hP : va_P D vwCl (wX q cI cJ (nI (n + 1)) (upd mk n (nI a)) (upd lt n lc) (upd tg n t) (vp_updL pa n (hdX pa (kn a) n)) (vp_updL an n (kn a)) (mL la (kn a) n n) (vp_updL kn a ((kn a) ||| (ol n))) fb fh nb te wt bh) H := hP
  refine lv_iload hx hb dX0_addEvent_92 (lv_at hl 1 rfl) ?_
  exact W.iret hx hb hr (fun t9 ht9 _ => ⟨some (.int (nI n)), (wX q cI cJ (nI (n + 1)) (upd mk n (nI a)) (upd lt n lc) (upd tg n t) (vp_updL pa n (hdX pa (kn a) n)) (vp_updL an n (kn a)) (mL la (kn a) n n) (vp_updL kn a ((kn a) ||| (ol n))) fb fh nb te wt bh), rfl, ⟨rfl, rfl⟩, rfl, by rw [ht9]; exact hP, hS.F ht9⟩) hS.2.2 dX0_addEvent_94
set_option maxHeartbeats 4000000 in
set_option maxRecDepth 100000 in
theorem c_X0_hangLetter (l : Launch) (D : va_G) (cI cJ : ClassId) (q : Nat → Nat) (n : Nat) (mk lt tg : Nat → Int32) (pa an la kn : Nat → Int64) (fb : Int32) (fh nb te wt bh : Nat → Int32) (e0 : Nat) (h : Int32) (hn : n ≤ 60) (he : e0 < 60) : eg_MW D (tyL cI cJ) l yX0_hangLetter wsX0_hangLetter ({ frames := 1, cells := 0, slots := 0, locals := 21 }) 0 0 [.ref (q 0), .int (nI e0), .int h] (wX q cI cJ (nI n) mk lt tg pa an la kn fb fh nb te wt bh) (fun r w1 => r = none ∧ ((∃ t : Nat, t < n ∧ h = nI t ∧ w1 = wX q cI cJ (nI n) mk lt tg pa an la kn fb (upd (upd fh e0 (-1)) t (nI e0)) (upd nb e0 (upd fh e0 (-1) t)) te wt bh) ∨ (ev n h = false ∧ w1 = wX q cI cJ (nI n) mk lt tg pa an la kn (nI e0) (upd fh e0 (-1)) (upd nb e0 fb) te wt bh))) := by
  refine Met.ofW (cc := cX0_hangLetter) (maxL := 3) (ret := none) (by decide) rfl ?_
  intro p e s m args below meth c s₁ B hml hv
  obtain ⟨rfl, hP, hK, hD0⟩ := hv
  have hx := B.exec
  have hb := B.bytes
  have hr := B.returns
  have hts := atoms_spec (ws := wsX0_hangLetter) B.pre
  have hown : s.vm.findClass RX0 = some m.cls := findClass_of_methodNamed B.named
  have hlocks := B.notSynchronized
  have hD := eg_D_of hD0
  have hS : va_S (eg_A (wX q cI cJ (nI n) mk lt tg pa an la kn fb fh nb te wt bh)) s.heap s.heap [] := va_S.rf
  have hin : ∀ w ∈ u_ws RX0 TX0 14, w ∈ wsX0_hangLetter := by decide +kernel
  have hl := lv_entry ([.ref (q 0), .int (nI e0), .int h]) (n := 3) (Nat.le_of_ble_eq_true rfl)
  rw [lg_entry_eq]
  generalize (lg_sl ([.ref (q 0), .int (nI e0), .int h]) ++ List.replicate (3 - (lg_sl ([.ref (q 0), .int (nI e0), .int h])).length) Slot.unset).toArray = ls at hl ⊢
  have hl : lv_has ls 3 [(0, .ref (q 0)), (1, .int (nI e0)), (2, .int h)] := hl
  generalize h0H : s.heap = H at hP ⊢
  have hS : va_S (eg_A (wX q cI cJ (nI n) mk lt tg pa an la kn fb fh nb te wt bh)) s.heap H [] := by rw [← h0H]; exact hS
  generalize ([] : List Loc) = locs at hS ⊢
  refine lv_aload_n hx hb dX0_hangLetter_0 rfl (lv_at hl 0 rfl) ?_
  refine va_get (D := D) (ci := 0) (v := .ref (q 8)) (C := RX0) (T := TX0) (N := 14) hx hb hts hin hown hK hP 0 rfl rfl 9 (by decide) (hts (.fieldLink RX0 39 "EditGraph" "firstHanging" "[I") (by decide +kernel)) (fun _ h9 => h9) rfl dX0_hangLetter_1 ?_
  refine lv_iload_n hx hb dX0_hangLetter_4 rfl (lv_at hl 1 rfl) ?_
  refine lv_iconst (v := (-1)) hx hb dX0_hangLetter_5 (by decide +kernel) ?_
  refine eg_iast hx hb hK hP hD rfl hS 8 0 rfl rfl (by omega) (by decide) dX0_hangLetter_6 (w' := wX q cI cJ (nI n) mk lt tg pa an la kn fb (upd fh e0 (-1)) nb te wt bh) rfl (fun H locs hP hS => ?_)
  refine lv_aload_n hx hb dX0_hangLetter_7 rfl (lv_at hl 0 rfl) ?_
  refine lv_iload_n hx hb dX0_hangLetter_8 rfl (lv_at hl 2 rfl) ?_
  refine eg_callV (As := [.int h]) (rest := []) hx hb hml hown hts hK hP (c_X0_isEvent l D cI cJ q n mk lt tg pa an la kn fb (upd fh e0 (-1)) nb te wt bh h ) (cwV 1 hts gX0_hangLetter_X0_isEvent rfl rfl rfl (by decide +kernel) ⟨Nat.le_of_ble_eq_true rfl, Nat.le_of_ble_eq_true rfl⟩) (va_recv hK hP (ci := 0) (q0 := 0) rfl rfl) rfl hl.1 rfl (Nat.le_of_ble_eq_true rfl) dX0_hangLetter_9 ⟨Nat.zero_le _, Nat.zero_le _⟩ ?_
  refine eg_ifeq_b (tgt := 37) hx hb dX0_hangLetter_12 (by decide) (fun c12 => ?_) (fun c12 => ?_)
  · refine lv_aload_n hx hb dX0_hangLetter_37 rfl (lv_at hl 0 rfl) ?_
    refine va_get (D := D) (ci := 0) (v := .ref (q 9)) (C := RX0) (T := TX0) (N := 14) hx hb hts hin hown hK hP 0 rfl rfl 10 (by decide) (hts (.fieldLink RX0 42 "EditGraph" "nextBeside" "[I") (by decide +kernel)) (fun _ h9 => h9) rfl dX0_hangLetter_38 ?_
    refine lv_iload_n hx hb dX0_hangLetter_41 rfl (lv_at hl 1 rfl) ?_
    refine lv_aload_n hx hb dX0_hangLetter_42 rfl (lv_at hl 0 rfl) ?_
    refine va_get (D := D) (ci := 0) (v := .int fb) (C := RX0) (T := TX0) (N := 14) hx hb hts hin hown hK hP 0 rfl rfl 8 (by decide) (hts (.fieldLink RX0 36 "EditGraph" "firstAtBeginning" "I") (by decide +kernel)) (fun _ h9 => h9) rfl dX0_hangLetter_43 ?_
    refine eg_iast hx hb hK hP hD rfl hS 9 0 rfl rfl (by omega) (by decide) dX0_hangLetter_46 (w' := wX q cI cJ (nI n) mk lt tg pa an la kn fb (upd fh e0 (-1)) (upd nb e0 fb) te wt bh) rfl (fun H locs hP hS => ?_)
    refine lv_aload_n hx hb dX0_hangLetter_47 rfl (lv_at hl 0 rfl) ?_
    refine lv_iload_n hx hb dX0_hangLetter_48 rfl (lv_at hl 1 rfl) ?_
    refine va_put (D := D) (ci := 0) (v := .int (nI e0)) (ty := .int) (C := RX0) (T := TX0) (N := 14) hx hb hts hin tyX0 tyX0_ok nmX0 hown hK hP (eg_D_same hD rfl) hS 0 rfl rfl 8 (by decide) (hts (.fieldLink RX0 36 "EditGraph" "firstAtBeginning" "I") (by decide +kernel)) (fun _ h9 => h9) rfl (by decide +kernel) rfl rfl (Nat.le_of_ble_eq_true rfl) dX0_hangLetter_49 (fun H locs hP _ hS => ?_)
    have hP : va_P D vwCl (wX q cI cJ (nI n) mk lt tg pa an la kn (nI e0) (upd fh e0 (-1)) (upd nb e0 fb) te wt bh) H := hP
    exact W.vret hx hb hr (fun t9 ht9 _ => ⟨none, (wX q cI cJ (nI n) mk lt tg pa an la kn (nI e0) (upd fh e0 (-1)) (upd nb e0 fb) te wt bh), rfl, ⟨rfl, Or.inr ⟨c12, rfl⟩⟩, rfl, by rw [ht9]; exact hP, hS.F ht9⟩) hS.2.2 dX0_hangLetter_52
  · obtain ⟨t, htn, eT⟩ := ev_of (by omega) c12
    have hl : lv_has ls 3 [(0, .ref (q 0)), (1, .int (nI e0)), (2, .int (nI t))] := by rw [← eT]; exact hl
    refine lv_aload_n hx hb dX0_hangLetter_15 rfl (lv_at hl 0 rfl) ?_
    refine va_get (D := D) (ci := 0) (v := .ref (q 9)) (C := RX0) (T := TX0) (N := 14) hx hb hts hin hown hK hP 0 rfl rfl 10 (by decide) (hts (.fieldLink RX0 42 "EditGraph" "nextBeside" "[I") (by decide +kernel)) (fun _ h9 => h9) rfl dX0_hangLetter_16 ?_
    refine lv_iload_n hx hb dX0_hangLetter_19 rfl (lv_at hl 1 rfl) ?_
    refine lv_aload_n hx hb dX0_hangLetter_20 rfl (lv_at hl 0 rfl) ?_
    refine va_get (D := D) (ci := 0) (v := .ref (q 8)) (C := RX0) (T := TX0) (N := 14) hx hb hts hin hown hK hP 0 rfl rfl 9 (by decide) (hts (.fieldLink RX0 39 "EditGraph" "firstHanging" "[I") (by decide +kernel)) (fun _ h9 => h9) rfl dX0_hangLetter_21 ?_
    refine lv_iload_n hx hb dX0_hangLetter_24 rfl (lv_at hl 2 rfl) ?_
    refine eg_iald hx hb hK hP 8 0 rfl rfl (by omega) (by decide) dX0_hangLetter_25 ?_
    refine eg_iast hx hb hK hP hD rfl hS 9 0 rfl rfl (by omega) (by decide) dX0_hangLetter_26 (w' := wX q cI cJ (nI n) mk lt tg pa an la kn fb (upd fh e0 (-1)) (upd nb e0 ((upd fh e0 (-1)) t)) te wt bh) rfl (fun H locs hP hS => ?_)
    refine lv_aload_n hx hb dX0_hangLetter_27 rfl (lv_at hl 0 rfl) ?_
    refine va_get (D := D) (ci := 0) (v := .ref (q 8)) (C := RX0) (T := TX0) (N := 14) hx hb hts hin hown hK hP 0 rfl rfl 9 (by decide) (hts (.fieldLink RX0 39 "EditGraph" "firstHanging" "[I") (by decide +kernel)) (fun _ h9 => h9) rfl dX0_hangLetter_28 ?_
    refine lv_iload_n hx hb dX0_hangLetter_31 rfl (lv_at hl 2 rfl) ?_
    refine lv_iload_n hx hb dX0_hangLetter_32 rfl (lv_at hl 1 rfl) ?_
    refine eg_iast hx hb hK hP hD rfl hS 8 0 rfl rfl (by omega) (by decide) dX0_hangLetter_33 (w' := wX q cI cJ (nI n) mk lt tg pa an la kn fb (upd (upd fh e0 (-1)) t (nI e0)) (upd nb e0 ((upd fh e0 (-1)) t)) te wt bh) rfl (fun H locs hP hS => ?_)
    refine lv_goto (tgt := 52) hx hb dX0_hangLetter_34 (by decide) ?_
    exact W.vret hx hb hr (fun t9 ht9 _ => ⟨none, (wX q cI cJ (nI n) mk lt tg pa an la kn fb (upd (upd fh e0 (-1)) t (nI e0)) (upd nb e0 ((upd fh e0 (-1)) t)) te wt bh), rfl, ⟨rfl, Or.inl ⟨t, htn, eT, rfl⟩⟩, rfl, by rw [ht9]; exact hP, hS.F ht9⟩) hS.2.2 dX0_hangLetter_52
set_option maxHeartbeats 4000000 in
set_option maxRecDepth 100000 in
theorem c_X0_putWaiting (l : Launch) (D : va_G) (cI cJ : ClassId) (q : Nat → Nat) (n : Nat) (mk lt tg : Nat → Int32) (pa an la kn : Nat → Int64) (fb : Int32) (fh nb te wt bh : Nat → Int32) (x : Int32) (k : Nat) (hn : n ≤ 60) (hk : k ≤ 60) : eg_MW D (tyL cI cJ) l yX0_putWaiting wsX0_putWaiting ({ frames := 1, cells := 0, slots := 0, locals := 21 }) 0 0 [.ref (q 0), .int x, .int (nI k)] (wX q cI cJ (nI n) mk lt tg pa an la kn fb fh nb te wt bh) (fun r w1 => (ev n x = true ∧ k < 60 ∧ r = some (.int (nI (k + 1))) ∧ w1 = wX q cI cJ (nI n) mk lt tg pa an la kn fb fh nb te (upd wt k x) bh) ∨ ((ev n x = false ∨ 60 ≤ k) ∧ r = some (.int (nI k)) ∧ w1 = wX q cI cJ (nI n) mk lt tg pa an la kn fb fh nb te wt bh)) := by
  refine Met.ofW (cc := cX0_putWaiting) (maxL := 3) (ret := (some .int)) (by decide) rfl ?_
  intro p e s m args below meth c s₁ B hml hv
  obtain ⟨rfl, hP, hK, hD0⟩ := hv
  have hx := B.exec
  have hb := B.bytes
  have hr := B.returns
  have hts := atoms_spec (ws := wsX0_putWaiting) B.pre
  have hown : s.vm.findClass RX0 = some m.cls := findClass_of_methodNamed B.named
  have hlocks := B.notSynchronized
  have hD := eg_D_of hD0
  have hS : va_S (eg_A (wX q cI cJ (nI n) mk lt tg pa an la kn fb fh nb te wt bh)) s.heap s.heap [] := va_S.rf
  have hin : ∀ w ∈ u_ws RX0 TX0 14, w ∈ wsX0_putWaiting := by decide +kernel
  have hl := lv_entry ([.ref (q 0), .int x, .int (nI k)]) (n := 3) (Nat.le_of_ble_eq_true rfl)
  rw [lg_entry_eq]
  generalize (lg_sl ([.ref (q 0), .int x, .int (nI k)]) ++ List.replicate (3 - (lg_sl ([.ref (q 0), .int x, .int (nI k)])).length) Slot.unset).toArray = ls at hl ⊢
  have hl : lv_has ls 3 [(0, .ref (q 0)), (1, .int x), (2, .int (nI k))] := hl
  generalize h0H : s.heap = H at hP ⊢
  have hS : va_S (eg_A (wX q cI cJ (nI n) mk lt tg pa an la kn fb fh nb te wt bh)) s.heap H [] := by rw [← h0H]; exact hS
  generalize ([] : List Loc) = locs at hS ⊢
  refine lv_aload_n hx hb dX0_putWaiting_0 rfl (lv_at hl 0 rfl) ?_
  refine lv_iload_n hx hb dX0_putWaiting_1 rfl (lv_at hl 1 rfl) ?_
  refine eg_callV (As := [.int x]) (rest := []) hx hb hml hown hts hK hP (c_X0_isEvent l D cI cJ q n mk lt tg pa an la kn fb fh nb te wt bh x ) (cwV 1 hts gX0_putWaiting_X0_isEvent rfl rfl rfl (by decide +kernel) ⟨Nat.le_of_ble_eq_true rfl, Nat.le_of_ble_eq_true rfl⟩) (va_recv hK hP (ci := 0) (q0 := 0) rfl rfl) rfl hl.1 rfl (Nat.le_of_ble_eq_true rfl) dX0_putWaiting_2 ⟨Nat.zero_le _, Nat.zero_le _⟩ ?_
  refine eg_ifeq_b (tgt := 14) hx hb dX0_putWaiting_5 (by decide) (fun c5 => ?_) (fun c5 => ?_)
  · refine lv_iload_n hx hb dX0_putWaiting_14 rfl (lv_at hl 2 rfl) ?_
    exact W.iret hx hb hr (fun t9 ht9 _ => ⟨some (.int (nI k)), (wX q cI cJ (nI n) mk lt tg pa an la kn fb fh nb te wt bh), rfl, Or.inr ⟨by first | exact Or.inl c5 | exact Or.inr c11, rfl, rfl⟩, rfl, by rw [ht9]; exact hP, hS.F ht9⟩) hS.2.2 dX0_putWaiting_15
  · refine lv_iload_n hx hb dX0_putWaiting_8 rfl (lv_at hl 2 rfl) ?_
    refine lv_bipush (v := nI 60) hx hb dX0_putWaiting_9 (by decide +kernel) ?_
    refine eg_icmp_lt (tgt := 16) hx hb dX0_putWaiting_11 (by decide) (by omega) (by omega) (fun c11 => ?_) (fun c11 => ?_)
    · refine lv_aload_n hx hb dX0_putWaiting_16 rfl (lv_at hl 0 rfl) ?_
      refine va_get (D := D) (ci := 0) (v := .ref (q 11)) (C := RX0) (T := TX0) (N := 14) hx hb hts hin hown hK hP 0 rfl rfl 12 (by decide) (hts (.fieldLink RX0 48 "EditGraph" "waiting" "[I") (by decide +kernel)) (fun _ h9 => h9) rfl dX0_putWaiting_17 ?_
      refine lv_iload_n hx hb dX0_putWaiting_20 rfl (lv_at hl 2 rfl) ?_
      refine lv_iload_n hx hb dX0_putWaiting_21 rfl (lv_at hl 1 rfl) ?_
      refine eg_iast hx hb hK hP hD rfl hS 11 0 rfl rfl (by omega) (by decide) dX0_putWaiting_22 (w' := wX q cI cJ (nI n) mk lt tg pa an la kn fb fh nb te (upd wt k x) bh) rfl (fun H locs hP hS => ?_)
      refine lv_iload_n hx hb dX0_putWaiting_23 rfl (lv_at hl 2 rfl) ?_
      refine lv_iconst (v := nI 1) hx hb dX0_putWaiting_24 (by decide +kernel) ?_
      refine eg_iadd hx hb dX0_putWaiting_25 ?_
      exact W.iret hx hb hr (fun t9 ht9 _ => ⟨some (.int (nI (k + 1))), (wX q cI cJ (nI n) mk lt tg pa an la kn fb fh nb te (upd wt k x) bh), rfl, Or.inl ⟨c5, c11, rfl, rfl⟩, rfl, by rw [ht9]; exact hP, hS.F ht9⟩) hS.2.2 dX0_putWaiting_26
    · refine lv_iload_n hx hb dX0_putWaiting_14 rfl (lv_at hl 2 rfl) ?_
      exact W.iret hx hb hr (fun t9 ht9 _ => ⟨some (.int (nI k)), (wX q cI cJ (nI n) mk lt tg pa an la kn fb fh nb te wt bh), rfl, Or.inr ⟨by first | exact Or.inl c5 | exact Or.inr c11, rfl, rfl⟩, rfl, by rw [ht9]; exact hP, hS.F ht9⟩) hS.2.2 dX0_putWaiting_15
set_option maxHeartbeats 4000000 in
set_option maxRecDepth 100000 in
theorem c_X0_putText (l : Launch) (D : va_G) (cI cJ : ClassId) (q : Nat → Nat) (n : Nat) (mk lt tg : Nat → Int32) (pa an la kn : Nat → Int64) (fb : Int32) (fh nb te wt bh : Nat → Int32) (z : Int64) (e0 : Nat) (k : Nat) (he : e0 < 60) (hk : k ≤ 60) : eg_MW D (tyL cI cJ) l yX0_putText wsX0_putText ({ frames := 2, cells := 0, slots := 0, locals := 42 }) 0 0 [.ref (q 0), .long z, .int (nI e0), .int (nI k)] (wX q cI cJ (nI n) mk lt tg pa an la kn fb fh nb te wt bh) (fun r w1 => (bi z e0 = true ∧ k < 60 ∧ r = some (.int (nI (k + 1))) ∧ w1 = wX q cI cJ (nI n) mk lt tg pa an la kn fb fh nb (upd te k (nI e0)) wt bh) ∨ ((bi z e0 = false ∨ 60 ≤ k) ∧ r = some (.int (nI k)) ∧ w1 = wX q cI cJ (nI n) mk lt tg pa an la kn fb fh nb te wt bh)) := by
  refine Met.ofW (cc := cX0_putText) (maxL := 5) (ret := (some .int)) (by decide) rfl ?_
  intro p e s m args below meth c s₁ B hml hv
  obtain ⟨rfl, hP, hK, hD0⟩ := hv
  have hx := B.exec
  have hb := B.bytes
  have hr := B.returns
  have hts := atoms_spec (ws := wsX0_putText) B.pre
  have hown : s.vm.findClass RX0 = some m.cls := findClass_of_methodNamed B.named
  have hlocks := B.notSynchronized
  have hD := eg_D_of hD0
  have hS : va_S (eg_A (wX q cI cJ (nI n) mk lt tg pa an la kn fb fh nb te wt bh)) s.heap s.heap [] := va_S.rf
  have hin : ∀ w ∈ u_ws RX0 TX0 14, w ∈ wsX0_putText := by decide +kernel
  have hl := lv_entry ([.ref (q 0), .long z, .int (nI e0), .int (nI k)]) (n := 5) (Nat.le_of_ble_eq_true rfl)
  rw [lg_entry_eq]
  generalize (lg_sl ([.ref (q 0), .long z, .int (nI e0), .int (nI k)]) ++ List.replicate (5 - (lg_sl ([.ref (q 0), .long z, .int (nI e0), .int (nI k)])).length) Slot.unset).toArray = ls at hl ⊢
  have hl : lv_has ls 5 [(0, .ref (q 0)), (1, .long z), (3, .int (nI e0)), (4, .int (nI k))] := hl
  generalize h0H : s.heap = H at hP ⊢
  have hS : va_S (eg_A (wX q cI cJ (nI n) mk lt tg pa an la kn fb fh nb te wt bh)) s.heap H [] := by rw [← h0H]; exact hS
  generalize ([] : List Loc) = locs at hS ⊢
  refine lv_lload_n hx hb dX0_putText_0 rfl (lv_at hl 1 rfl) ?_
  refine lv_iload_n hx hb dX0_putText_1 rfl (lv_at hl 2 rfl) ?_
  refine eg_callS (As := [.long z, .int (nI e0)]) (rest := []) hx hb hml hown hts hK (c_X0_has l D cI cJ z e0 (by omega)) (va_cwS 2 hts gX0_putText_X0_has rfl rfl rfl (by decide +kernel) ⟨Nat.le_of_ble_eq_true rfl, Nat.le_of_ble_eq_true rfl⟩) rfl hl.1 rfl (Nat.le_of_ble_eq_true rfl) dX0_putText_2 ⟨Nat.zero_le _, Nat.zero_le _⟩ ?_
  refine eg_ifeq_b (tgt := 15) hx hb dX0_putText_5 (by decide) (fun c5 => ?_) (fun c5 => ?_)
  · refine lv_iload hx hb dX0_putText_15 (lv_at hl 3 rfl) ?_
    exact W.iret hx hb hr (fun t9 ht9 _ => ⟨some (.int (nI k)), (wX q cI cJ (nI n) mk lt tg pa an la kn fb fh nb te wt bh), rfl, Or.inr ⟨by first | exact Or.inl c5 | exact Or.inr c12, rfl, rfl⟩, rfl, by rw [ht9]; exact hP, hS.F ht9⟩) hS.2.2 dX0_putText_17
  · refine lv_iload hx hb dX0_putText_8 (lv_at hl 3 rfl) ?_
    refine lv_bipush (v := nI 60) hx hb dX0_putText_10 (by decide +kernel) ?_
    refine eg_icmp_lt (tgt := 18) hx hb dX0_putText_12 (by decide) (by omega) (by omega) (fun c12 => ?_) (fun c12 => ?_)
    · refine lv_aload_n hx hb dX0_putText_18 rfl (lv_at hl 0 rfl) ?_
      refine va_get (D := D) (ci := 0) (v := .ref (q 10)) (C := RX0) (T := TX0) (N := 14) hx hb hts hin hown hK hP 0 rfl rfl 11 (by decide) (hts (.fieldLink RX0 45 "EditGraph" "textEvents" "[I") (by decide +kernel)) (fun _ h9 => h9) rfl dX0_putText_19 ?_
      refine lv_iload hx hb dX0_putText_22 (lv_at hl 3 rfl) ?_
      refine lv_iload_n hx hb dX0_putText_24 rfl (lv_at hl 2 rfl) ?_
      refine eg_iast hx hb hK hP hD rfl hS 10 0 rfl rfl (by omega) (by decide) dX0_putText_25 (w' := wX q cI cJ (nI n) mk lt tg pa an la kn fb fh nb (upd te k (nI e0)) wt bh) rfl (fun H locs hP hS => ?_)
      refine lv_iload hx hb dX0_putText_26 (lv_at hl 3 rfl) ?_
      refine lv_iconst (v := nI 1) hx hb dX0_putText_28 (by decide +kernel) ?_
      refine eg_iadd hx hb dX0_putText_29 ?_
      exact W.iret hx hb hr (fun t9 ht9 _ => ⟨some (.int (nI (k + 1))), (wX q cI cJ (nI n) mk lt tg pa an la kn fb fh nb (upd te k (nI e0)) wt bh), rfl, Or.inl ⟨c5, c12, rfl, rfl⟩, rfl, by rw [ht9]; exact hP, hS.F ht9⟩) hS.2.2 dX0_putText_30
    · refine lv_iload hx hb dX0_putText_15 (lv_at hl 3 rfl) ?_
      exact W.iret hx hb hr (fun t9 ht9 _ => ⟨some (.int (nI k)), (wX q cI cJ (nI n) mk lt tg pa an la kn fb fh nb te wt bh), rfl, Or.inr ⟨by first | exact Or.inl c5 | exact Or.inr c12, rfl, rfl⟩, rfl, by rw [ht9]; exact hP, hS.F ht9⟩) hS.2.2 dX0_putText_17
end
section
-- HOW MANY BITS ARE SET: the JDK's way, byte by byte
def un (x : Int64) : Nat := x.toBitVec.toNat
theorem un_lt (x : Int64) : un x < 18446744073709551616 := x.toBitVec.isLt
theorem un_inj {x y : Int64} (h : un x = un y) : x = y := Int64.toBitVec_inj.mp (BitVec.eq_of_toNat_eq h)
theorem un_add (x y : Int64) : un (x + y) = (un x + un y) % 18446744073709551616 := by
  show (x + y).toBitVec.toNat = _
  rw [Int64.toBitVec_add, BitVec.toNat_add]; rfl
theorem un_sub {x y : Int64} (h : un y ≤ un x) : un (x - y) = un x - un y := by
  show (x - y).toBitVec.toNat = _
  rw [Int64.toBitVec_sub, BitVec.toNat_sub]
  have h1 := un_lt x
  have h2 := un_lt y
  unfold un at *
  omega
theorem un_and (x y : Int64) : un (x &&& y) = un x &&& un y := by
  show (x &&& y).toBitVec.toNat = _
  rw [Int64.toBitVec_and, BitVec.toNat_and]; rfl
theorem un_shr (x : Int64) {k : Nat} (hk : k < 64) : un ((x.toUInt64 >>> ((nI k).toInt64.toUInt64 &&& Int64.toUInt64 63)).toInt64) = un x / 2 ^ k := by
  have h9 : (((nI k).toInt64.toUInt64 &&& Int64.toUInt64 63).toBitVec % 64).toNat = k := by
    rw [BitVec.toNat_umod]
    have := sh_c k hk
    rw [← UInt64.toNat_toBitVec] at this
    rw [this]
    exact Nat.mod_eq_of_lt hk
  show ((x.toUInt64 >>> ((nI k).toInt64.toUInt64 &&& Int64.toUInt64 63)).toInt64).toBitVec.toNat = _
  simp only [UInt64.toBitVec_toInt64, UInt64.toBitVec_shiftRight, Int64.toBitVec_toUInt64]
  rw [BitVec.ushiftRight_eq', BitVec.toNat_ushiftRight, h9, Nat.shiftRight_eq_div_pow]
  rfl
theorem land256 {a b x y : Nat} (ha : a < 256) (hb : b < 256) : (a + 256 * x) &&& (b + 256 * y) = (a &&& b) + 256 * (x &&& y) := by
  have hab : a &&& b < 2 ^ 8 := Nat.and_lt_two_pow a (by omega)
  apply Nat.eq_of_testBit_eq
  intro j
  rw [Nat.testBit_and, Nat.add_comm a, Nat.add_comm b, Nat.add_comm (a &&& b)]
  have e1 := Nat.testBit_two_pow_mul_add x (show a < 2 ^ 8 by omega) j
  have e2 := Nat.testBit_two_pow_mul_add y (show b < 2 ^ 8 by omega) j
  have e3 := Nat.testBit_two_pow_mul_add (x &&& y) hab j
  rw [show (2 : Nat) ^ 8 = 256 from rfl] at e1 e2 e3
  rw [e1, e2, e3]
  split
  · rw [Nat.testBit_and]
  · rw [Nat.testBit_and]
def msk (c : Nat) : Nat → Nat
  | 0 => 0
  | k + 1 => c + 256 * msk c k
def bmap (f : Nat → Nat) : Nat → Nat → Nat
  | 0, _ => 0
  | k + 1, N => f (N % 256) + 256 * bmap f k (N / 256)
def bf1 (b : Nat) : Nat := b - ((b / 2) &&& 85)
def bf2 (b : Nat) : Nat := (b &&& 51) + ((b / 4) &&& 51)
def bf3 (b : Nat) : Nat := (b + b / 16) % 16
theorem bd1 : ∀ b, b < 256 → ∀ c, c < 2 → (b / 2 + 128 * c) &&& 85 = (b / 2) &&& 85 := by decide +kernel
theorem bd2 : ∀ b, b < 256 → ∀ c, c < 4 → (b / 4 + 64 * c) &&& 51 = (b / 4) &&& 51 := by decide +kernel
theorem bd3 : ∀ b, b < 256 → bf2 (bf1 b) < 256 ∧ bf2 (bf1 b) % 16 ≤ 6 ∧ bf2 (bf1 b) / 16 ≤ 6 := by decide +kernel
theorem bd4 : ∀ b, b < 256 → bf3 (bf2 (bf1 b)) = ct (fun i => b.testBit i) 8 := by decide +kernel
theorem bd5 : ∀ b, b < 256 → bf3 (bf2 (bf1 b)) ≤ 8 := by decide +kernel
theorem bd6 : ∀ b, b < 256 → bf1 b < 256 := by decide +kernel
theorem bl1 : ∀ (k N : Nat), N < 256 ^ k → N - ((N / 2) &&& msk 85 k) = bmap bf1 k N
  | 0, N, h => by simp at h; subst h; rfl
  | k + 1, N, h => by
    have ih := bl1 k (N / 256) (by rw [Nat.pow_succ] at h; omega)
    have e1 : N / 2 = (N % 256 / 2 + 128 * (N / 256 % 2)) + 256 * (N / 256 / 2) := by omega
    rw [msk, bmap, e1, land256 (by omega) (by omega), bd1 _ (by omega) _ (by omega), ← ih, bf1]
    have h1 : (N % 256 / 2) &&& 85 ≤ N % 256 / 2 := Nat.and_le_left
    have h2 : (N / 256 / 2) &&& msk 85 k ≤ N / 256 / 2 := Nat.and_le_left
    omega
theorem bl2 : ∀ (k N : Nat), (N &&& msk 51 k) + ((N / 4) &&& msk 51 k) = bmap bf2 k N
  | 0, N => by simp [msk, bmap]
  | k + 1, N => by
    have ih := bl2 k (N / 256)
    have e1 : N / 4 = (N % 256 / 4 + 64 * (N / 256 % 4)) + 256 * (N / 256 / 4) := by omega
    have e2 : N &&& (51 + 256 * msk 51 k) = (N % 256 &&& 51) + 256 * (N / 256 &&& msk 51 k) := by
      have e3 : N = N % 256 + 256 * (N / 256) := by omega
      rw [← land256 (by omega) (by omega), ← e3]
    rw [msk, bmap, e2, e1, land256 (by omega) (by omega), bd2 _ (by omega) _ (by omega), ← ih, bf2]
    omega
def nib : Nat → Nat → Prop
  | 0, N => N = 0
  | k + 1, N => N % 256 % 16 ≤ 6 ∧ N % 256 / 16 ≤ 6 ∧ nib k (N / 256)
theorem nib_lo : ∀ {k N : Nat}, nib k N → N % 16 ≤ 6
  | 0, N, h => by rw [h]; omega
  | k + 1, N, h => by have := h.1; omega
theorem bl3 : ∀ (k N : Nat), nib k N → (N + N / 16) &&& msk 15 k = bmap bf3 k N
  | 0, N, _ => by simp [msk, bmap]
  | k + 1, N, h => by
    have ih := bl3 k (N / 256) h.2.2
    have h1 := h.1
    have h2 := h.2.1
    have h3 := nib_lo h.2.2
    have e1 : N + N / 16 = (N % 256 + N % 256 / 16 + 16 * (N / 256 % 16)) + 256 * (N / 256 + N / 256 / 16) := by omega
    have e2 : ∀ z : Nat, z &&& 15 = z % 16 := fun z => Nat.and_two_pow_sub_one_eq_mod z 4
    rw [msk, bmap, e1, land256 (by omega) (by omega), ← ih, e2, bf3]
    omega
theorem bcomp {f g : Nat → Nat} (hg : ∀ b, b < 256 → g b < 256) : ∀ (k N : Nat), bmap f k (bmap g k N) = bmap (fun b => f (g b)) k N
  | 0, _ => rfl
  | k + 1, N => by
    have h := hg (N % 256) (by omega)
    rw [bmap, bmap, bmap, show (g (N % 256) + 256 * bmap g k (N / 256)) % 256 = g (N % 256) by omega, show (g (N % 256) + 256 * bmap g k (N / 256)) / 256 = bmap g k (N / 256) by omega, bcomp hg k]
theorem bnib {g : Nat → Nat} (hg : ∀ b, b < 256 → g b < 256 ∧ g b % 16 ≤ 6 ∧ g b / 16 ≤ 6) : ∀ (k N : Nat), nib k (bmap g k N)
  | 0, _ => rfl
  | k + 1, N => by
    have h := hg (N % 256) (by omega)
    rw [bmap, nib, show (g (N % 256) + 256 * bmap g k (N / 256)) % 256 = g (N % 256) by omega, show (g (N % 256) + 256 * bmap g k (N / 256)) / 256 = bmap g k (N / 256) by omega]
    exact ⟨h.2.1, h.2.2, bnib hg k _⟩
def bsum (f : Nat → Nat) : Nat → Nat → Nat
  | 0, _ => 0
  | k + 1, N => f (N % 256) + bsum f k (N / 256)
theorem bsum_ct : ∀ (k N : Nat), ct (fun i => N.testBit i) (8 * k) = bsum (fun b => ct (fun i => b.testBit i) 8) k N
  | 0, _ => rfl
  | k + 1, N => by
    rw [bsum, ← bsum_ct k (N / 256), show 8 * (k + 1) = 8 + 8 * k by omega, ct_split]
    congr 1
    · refine ct_congr (fun i hi => ?_)
      have := Nat.testBit_mod_two_pow N 8 i
      rw [show (2 : Nat) ^ 8 = 256 from rfl] at this
      rw [this]
      simp [hi]
    · refine ct_congr (fun i _ => ?_)
      have := Nat.testBit_div_two_pow (n := 8) N i
      rw [show (2 : Nat) ^ 8 = 256 from rfl] at this
      show N.testBit (8 + i) = (N / 256).testBit i
      rw [this, Nat.add_comm]
theorem bmap_congr {f g : Nat → Nat} (h : ∀ b, b < 256 → f b = g b) : ∀ (k N : Nat), bmap f k N = bmap g k N
  | 0, _ => rfl
  | k + 1, N => by rw [bmap, bmap, h _ (by omega), bmap_congr h k]
theorem bsum_congr {f g : Nat → Nat} (h : ∀ b, b < 256 → f b = g b) : ∀ (k N : Nat), bsum f k N = bsum g k N
  | 0, _ => rfl
  | k + 1, N => by rw [bsum, bsum, h _ (by omega), bsum_congr h k]
/-- eight bytes added up by three foldings -/
theorem bfold {f : Nat → Nat} (hf : ∀ b, b < 256 → f b ≤ 8) (N : Nat) : ∃ Z A4 A5 A6 : Nat, Z = bmap f 8 N ∧ A4 = Z + Z / 256 ∧ A5 = A4 + A4 / 65536 ∧ A6 = A5 + A5 / 4294967296 ∧ A4 < 18446744073709551616 ∧ A5 < 18446744073709551616 ∧ A6 < 18446744073709551616 ∧ A6 % 128 = bsum f 8 N := by
  refine ⟨_, _, _, _, rfl, rfl, rfl, rfl, ?_⟩
  simp only [bmap, bsum]
  generalize N / 256 = N1
  generalize hc0 : f (N % 256) = c0
  generalize hc1 : f (N1 % 256) = c1
  generalize hc2 : f (N1 / 256 % 256) = c2
  generalize hc3 : f (N1 / 256 / 256 % 256) = c3
  generalize hc4 : f (N1 / 256 / 256 / 256 % 256) = c4
  generalize hc5 : f (N1 / 256 / 256 / 256 / 256 % 256) = c5
  generalize hc6 : f (N1 / 256 / 256 / 256 / 256 / 256 % 256) = c6
  generalize hc7 : f (N1 / 256 / 256 / 256 / 256 / 256 / 256 % 256) = c7
  have b0 : c0 ≤ 8 := by rw [← hc0]; exact hf _ (by omega)
  have b1 : c1 ≤ 8 := by rw [← hc1]; exact hf _ (by omega)
  have b2 : c2 ≤ 8 := by rw [← hc2]; exact hf _ (by omega)
  have b3 : c3 ≤ 8 := by rw [← hc3]; exact hf _ (by omega)
  have b4 : c4 ≤ 8 := by rw [← hc4]; exact hf _ (by omega)
  have b5 : c5 ≤ 8 := by rw [← hc5]; exact hf _ (by omega)
  have b6 : c6 ≤ 8 := by rw [← hc6]; exact hf _ (by omega)
  have b7 : c7 ≤ 8 := by rw [← hc7]; exact hf _ (by omega)
  clear hc0 hc1 hc2 hc3 hc4 hc5 hc6 hc7 hf
  obtain ⟨Z, hZ⟩ : ∃ Z, Z = c0 + 256 * (c1 + 256 * (c2 + 256 * (c3 + 256 * (c4 + 256 * (c5 + 256 * (c6 + 256 * (c7 + 256 * 0))))))) := ⟨_, rfl⟩
  rw [← hZ]
  have z1 : Z / 256 = c1 + 256 * c2 + 65536 * c3 + 16777216 * c4 + 4294967296 * c5 + 1099511627776 * c6 + 281474976710656 * c7 := by omega
  obtain ⟨A, hA⟩ : ∃ A, A = Z + Z / 256 := ⟨_, rfl⟩
  rw [← hA]
  have a1 : A = (c0 + c1) + 256 * (c1 + c2) + 65536 * (c2 + c3) + 16777216 * (c3 + c4) + 4294967296 * (c4 + c5) + 1099511627776 * (c5 + c6) + 281474976710656 * (c6 + c7) + 72057594037927936 * c7 := by omega
  clear hA z1 hZ
  have a2 : A / 65536 = (c2 + c3) + 256 * (c3 + c4) + 65536 * (c4 + c5) + 16777216 * (c5 + c6) + 4294967296 * (c6 + c7) + 1099511627776 * c7 := by omega
  obtain ⟨B, hB⟩ : ∃ B, B = A + A / 65536 := ⟨_, rfl⟩
  rw [← hB]
  have q1 : B = (c0 + c1 + c2 + c3) + 256 * (c1 + c2 + c3 + c4) + 65536 * (c2 + c3 + c4 + c5) + 16777216 * (c3 + c4 + c5 + c6) + 4294967296 * (c4 + c5 + c6 + c7) + 1099511627776 * (c5 + c6 + c7) + 281474976710656 * (c6 + c7) + 72057594037927936 * c7 := by omega
  have hA4 : A < 18446744073709551616 := by omega
  clear hB a2 a1
  have q2 : B / 4294967296 = (c4 + c5 + c6 + c7) + 256 * (c5 + c6 + c7) + 65536 * (c6 + c7) + 16777216 * c7 := by omega
  exact ⟨hA4, by omega, by omega, by omega⟩
theorem pc_val {x a1 a2 a3 a4 a5 a6 : Int64} (e1 : a1 = x - ((x.toUInt64 >>> ((nI 1).toInt64.toUInt64 &&& Int64.toUInt64 63)).toInt64 &&& 6148914691236517205))
    (e2 : a2 = (a1 &&& 3689348814741910323) + ((a1.toUInt64 >>> ((nI 2).toInt64.toUInt64 &&& Int64.toUInt64 63)).toInt64 &&& 3689348814741910323))
    (e3 : a3 = (a2 + (a2.toUInt64 >>> ((nI 4).toInt64.toUInt64 &&& Int64.toUInt64 63)).toInt64) &&& 1085102592571150095)
    (e4 : a4 = a3 + (a3.toUInt64 >>> ((nI 8).toInt64.toUInt64 &&& Int64.toUInt64 63)).toInt64)
    (e5 : a5 = a4 + (a4.toUInt64 >>> ((nI 16).toInt64.toUInt64 &&& Int64.toUInt64 63)).toInt64)
    (e6 : a6 = a5 + (a5.toUInt64 >>> ((nI 32).toInt64.toUInt64 &&& Int64.toUInt64 63)).toInt64) : a6.toInt32 &&& nI 127 = nI (pc64 x) := by
  have m1 : un 6148914691236517205 = msk 85 8 := by decide +kernel
  have m2 : un 3689348814741910323 = msk 51 8 := by decide +kernel
  have m3 : un 1085102592571150095 = msk 15 8 := by decide +kernel
  have hx := un_lt x
  have u1 : un a1 = bmap bf1 8 (un x) := by
    rw [e1, ← bl1 8 (un x) (by omega), un_sub, un_and, un_shr x (by omega), m1]
    rw [un_and, un_shr x (by omega)]
    exact Nat.le_trans Nat.and_le_left (Nat.div_le_self _ _)
  have bnd : ∀ (f : Nat → Nat), (∀ b, b < 256 → f b < 256) → ∀ (k N : Nat), bmap f k N < 256 ^ k := by
    intro f hf k
    induction k with
    | zero => intro N; simp [bmap]
    | succ k ih =>
      intro N
      have h1 := ih (N / 256)
      have h2 := hf (N % 256) (by omega)
      rw [bmap, Nat.pow_succ]
      omega
  have u2 : un a2 = bmap (fun b => bf2 (bf1 b)) 8 (un x) := by
    have h := bnd (fun b => bf2 (bf1 b)) (fun b hb => (bd3 b hb).1) 8 (un x)
    rw [e2, un_add, un_and, un_and, un_shr a1 (by omega), m2]
    have := bl2 8 (un a1)
    rw [show (2 : Nat) ^ 2 = 4 from rfl, this, u1, bcomp bd6]
    exact Nat.mod_eq_of_lt (by omega)
  have u3 : un a3 = bmap (fun b => bf3 (bf2 (bf1 b))) 8 (un x) := by
    have hn := bnib (g := fun b => bf2 (bf1 b)) bd3 8 (un x)
    have h := bnd (fun b => bf2 (bf1 b)) (fun b hb => (bd3 b hb).1) 8 (un x)
    have h7 : ∀ N : Nat, nib 8 N → N ≤ 7378697629483820646 := by
      intro N hN
      simp only [nib] at hN
      omega
    have h8 := h7 _ hn
    rw [e3, un_and, un_add, un_shr a2 (by omega), m3, u2, show (2 : Nat) ^ 4 = 16 from rfl, Nat.mod_eq_of_lt (by omega), bl3 8 _ hn, bcomp (fun b hb => (bd3 b hb).1)]
  obtain ⟨Z, A4, A5, A6, hZ, h4, h5, h6, l4, l5, l6, hs⟩ := bfold (f := fun b => bf3 (bf2 (bf1 b))) bd5 (un x)
  have u4 : un a4 = A4 := by
    rw [e4, un_add, un_shr a3 (by omega), u3, ← hZ, show (2 : Nat) ^ 8 = 256 from rfl, ← h4]
    exact Nat.mod_eq_of_lt l4
  have u5 : un a5 = A5 := by
    rw [e5, un_add, un_shr a4 (by omega), u4, show (2 : Nat) ^ 16 = 65536 from rfl, ← h5]
    exact Nat.mod_eq_of_lt l5
  have u6 : un a6 = A6 := by
    rw [e6, un_add, un_shr a5 (by omega), u5, show (2 : Nat) ^ 32 = 4294967296 from rfl, ← h6]
    exact Nat.mod_eq_of_lt l6
  have hp : pc64 x = A6 % 128 := by
    rw [hs, pc64, bsum_congr (f := fun b => bf3 (bf2 (bf1 b))) bd4 8 (un x), ← bsum_ct]
    rfl
  have key : (a6.toInt32 &&& nI 127).toBitVec.toNat = A6 % 128 := by
    rw [Int32.toBitVec_and, BitVec.toNat_and, show (nI 127).toBitVec.toNat = 2 ^ 7 - 1 by decide +kernel, Nat.and_two_pow_sub_one_eq_mod]
    have : a6.toInt32.toBitVec.toNat = A6 % 4294967296 := by
      rw [Int64.toBitVec_toInt32, BitVec.signExtend_eq_setWidth_of_le _ (by omega), BitVec.toNat_setWidth]
      show un a6 % _ = _
      rw [u6]
    rw [this]
    omega
  have hl : A6 % 128 < 2 ^ 32 := by omega
  apply Int32.toBitVec_inj.mp
  apply BitVec.eq_of_toNat_eq
  rw [key, hp]
  exact (pk_tn hl).symm
end
section
-- Long.bitCount; what the class counts (by gen.py, specB.py)
set_option maxHeartbeats 4000000 in
set_option maxRecDepth 100000 in
theorem c_J13_bitCount_95d88 (l : Launch) (D : va_G) (cI cJ : ClassId) (x : Int64) : eg_MR D (tyL cI cJ) l yJ13_bitCount_95d88 wsJ13_bitCount_95d88 ({ frames := 0, cells := 0, slots := 0, locals := 0 }) [.long x] [] (some (.int (nI (pc64 x)))) := by
  refine Met.ofW (cc := cJ13_bitCount_95d88) (maxL := 2) (ret := (some .int)) (by decide) rfl ?_
  intro p e s m args below meth c s₁ B hml hv
  obtain ⟨rfl, hP, hK⟩ := hv
  have hx := B.exec
  have hb := B.bytes
  have hr := B.returns
  have hts := atoms_spec (ws := wsJ13_bitCount_95d88) B.pre
  have hown : s.vm.findClass RJ13 = some m.cls := findClass_of_methodNamed B.named
  have hlocks := B.notSynchronized
  have hl := lv_entry ([.long x]) (n := 2) (Nat.le_of_ble_eq_true rfl)
  rw [lg_entry_eq]
  generalize (lg_sl ([.long x]) ++ List.replicate (2 - (lg_sl ([.long x])).length) Slot.unset).toArray = ls at hl ⊢
  have hl : lv_has ls 2 [(0, .long x)] := hl
  refine lv_lload_n hx hb dJ13_bitCount_95d88_0 rfl (lv_at hl 0 rfl) ?_
  refine lv_lload_n hx hb dJ13_bitCount_95d88_1 rfl (lv_at hl 0 rfl) ?_
  refine lv_iconst (v := nI 1) hx hb dJ13_bitCount_95d88_2 (by decide +kernel) ?_
  refine lv_lushr (v := ((x.toUInt64 >>> ((nI 1).toInt64.toUInt64 &&& Int64.toUInt64 63)).toInt64)) hx hb dJ13_bitCount_95d88_3 rfl ?_
  refine lv_ldc2 hx hb hown (hts (.constantLong RJ13 314 6148914691236517205) (by decide +kernel)) dJ13_bitCount_95d88_4 ?_
  refine lv_land hx hb dJ13_bitCount_95d88_7 ?_
  refine lv_lsub hx hb dJ13_bitCount_95d88_8 ?_
  refine lv_topl (fun a1 e1 => ?_)
  refine lv_lstore_n (lv' := [(0, .long a1)]) hx hb dJ13_bitCount_95d88_9 rfl hl (by decide) rfl (fun ls hl => ?_)
  refine lv_lload_n hx hb dJ13_bitCount_95d88_10 rfl (lv_at hl 0 rfl) ?_
  refine lv_ldc2 hx hb hown (hts (.constantLong RJ13 316 3689348814741910323) (by decide +kernel)) dJ13_bitCount_95d88_11 ?_
  refine lv_land hx hb dJ13_bitCount_95d88_14 ?_
  refine lv_lload_n hx hb dJ13_bitCount_95d88_15 rfl (lv_at hl 0 rfl) ?_
  refine lv_iconst (v := nI 2) hx hb dJ13_bitCount_95d88_16 (by decide +kernel) ?_
  refine lv_lushr (v := ((a1.toUInt64 >>> ((nI 2).toInt64.toUInt64 &&& Int64.toUInt64 63)).toInt64)) hx hb dJ13_bitCount_95d88_17 rfl ?_
  refine lv_ldc2 hx hb hown (hts (.constantLong RJ13 316 3689348814741910323) (by decide +kernel)) dJ13_bitCount_95d88_18 ?_
  refine lv_land hx hb dJ13_bitCount_95d88_21 ?_
  refine lv_ladd hx hb dJ13_bitCount_95d88_22 ?_
  refine lv_topl (fun a2 e2 => ?_)
  refine lv_lstore_n (lv' := [(0, .long a2)]) hx hb dJ13_bitCount_95d88_23 rfl hl (by decide) rfl (fun ls hl => ?_)
  refine lv_lload_n hx hb dJ13_bitCount_95d88_24 rfl (lv_at hl 0 rfl) ?_
  refine lv_lload_n hx hb dJ13_bitCount_95d88_25 rfl (lv_at hl 0 rfl) ?_
  refine lv_iconst (v := nI 4) hx hb dJ13_bitCount_95d88_26 (by decide +kernel) ?_
  refine lv_lushr (v := ((a2.toUInt64 >>> ((nI 4).toInt64.toUInt64 &&& Int64.toUInt64 63)).toInt64)) hx hb dJ13_bitCount_95d88_27 rfl ?_
  refine lv_ladd hx hb dJ13_bitCount_95d88_28 ?_
  refine lv_ldc2 hx hb hown (hts (.constantLong RJ13 318 1085102592571150095) (by decide +kernel)) dJ13_bitCount_95d88_29 ?_
  refine lv_land hx hb dJ13_bitCount_95d88_32 ?_
  refine lv_topl (fun a3 e3 => ?_)
  refine lv_lstore_n (lv' := [(0, .long a3)]) hx hb dJ13_bitCount_95d88_33 rfl hl (by decide) rfl (fun ls hl => ?_)
  refine lv_lload_n hx hb dJ13_bitCount_95d88_34 rfl (lv_at hl 0 rfl) ?_
  refine lv_lload_n hx hb dJ13_bitCount_95d88_35 rfl (lv_at hl 0 rfl) ?_
  refine lv_bipush (v := nI 8) hx hb dJ13_bitCount_95d88_36 (by decide +kernel) ?_
  refine lv_lushr (v := ((a3.toUInt64 >>> ((nI 8).toInt64.toUInt64 &&& Int64.toUInt64 63)).toInt64)) hx hb dJ13_bitCount_95d88_38 rfl ?_
  refine lv_ladd hx hb dJ13_bitCount_95d88_39 ?_
  refine lv_topl (fun a4 e4 => ?_)
  refine lv_lstore_n (lv' := [(0, .long a4)]) hx hb dJ13_bitCount_95d88_40 rfl hl (by decide) rfl (fun ls hl => ?_)
  refine lv_lload_n hx hb dJ13_bitCount_95d88_41 rfl (lv_at hl 0 rfl) ?_
  refine lv_lload_n hx hb dJ13_bitCount_95d88_42 rfl (lv_at hl 0 rfl) ?_
  refine lv_bipush (v := nI 16) hx hb dJ13_bitCount_95d88_43 (by decide +kernel) ?_
  refine lv_lushr (v := ((a4.toUInt64 >>> ((nI 16).toInt64.toUInt64 &&& Int64.toUInt64 63)).toInt64)) hx hb dJ13_bitCount_95d88_45 rfl ?_
  refine lv_ladd hx hb dJ13_bitCount_95d88_46 ?_
  refine lv_topl (fun a5 e5 => ?_)
  refine lv_lstore_n (lv' := [(0, .long a5)]) hx hb dJ13_bitCount_95d88_47 rfl hl (by decide) rfl (fun ls hl => ?_)
  refine lv_lload_n hx hb dJ13_bitCount_95d88_48 rfl (lv_at hl 0 rfl) ?_
  refine lv_lload_n hx hb dJ13_bitCount_95d88_49 rfl (lv_at hl 0 rfl) ?_
  refine lv_bipush (v := nI 32) hx hb dJ13_bitCount_95d88_50 (by decide +kernel) ?_
  refine lv_lushr (v := ((a5.toUInt64 >>> ((nI 32).toInt64.toUInt64 &&& Int64.toUInt64 63)).toInt64)) hx hb dJ13_bitCount_95d88_52 rfl ?_
  refine lv_ladd hx hb dJ13_bitCount_95d88_53 ?_
  refine lv_topl (fun a6 e6 => ?_)
  refine lv_lstore_n (lv' := [(0, .long a6)]) hx hb dJ13_bitCount_95d88_54 rfl hl (by decide) rfl (fun ls hl => ?_)
  refine lv_lload_n hx hb dJ13_bitCount_95d88_55 rfl (lv_at hl 0 rfl) ?_
  refine lv_l2i (v := a6.toInt32) hx hb dJ13_bitCount_95d88_56 rfl ?_
  refine lv_bipush (v := nI 127) hx hb dJ13_bitCount_95d88_57 (by decide +kernel) ?_
  refine lv_iand hx hb dJ13_bitCount_95d88_59 ?_
  exact W.iret hx hb hr (fun t9 ht9 _ => ⟨congrArg (fun z => Outcome.returned (some (Value.int z))) (by first | exact pc_val e1 e2 e3 e4 e5 e6), ht9⟩) (fun q h => nomatch h) dJ13_bitCount_95d88_60
end
section
-- what a putWaiting, a putText do to the lists
theorem pw_St {q : Nat → Nat} {cI cJ : ClassId} {n : Nat} {mk lt tg : Nat → Int32} {pa an la kn : Nat → Int64} {fb : Int32} {fh nb te wt bh : Nat → Int32} {x : Int32} {S R A : List Nat} {f : Nat} {r : Option Value} {w1 : va_W} (hn : n ≤ 60)
    (h : (ev n x = true ∧ S.length < 60 ∧ r = some (.int (nI (S.length + 1))) ∧ w1 = wX q cI cJ (nI n) mk lt tg pa an la kn fb fh nb te (upd wt S.length x) bh) ∨ ((ev n x = false ∨ 60 ≤ S.length) ∧ r = some (.int (nI S.length)) ∧ w1 = wX q cI cJ (nI n) mk lt tg pa an la kn fb fh nb te wt bh))
    (ht : Tr n fh nb f x A) (hs : St n fh nb S R) (hk : stk wt S) (hl : S.length < 60) :
    ∃ (S' : List Nat) (wt' : Nat → Int32), r = some (.int (nI S'.length)) ∧ w1 = wX q cI cJ (nI n) mk lt tg pa an la kn fb fh nb te wt' bh ∧ St n fh nb S' (A ++ R) ∧ stk wt' S' := by
  rcases h with ⟨h1, h2, h3, h4⟩ | ⟨h1, h3, h4⟩
  · obtain ⟨e, he, rfl⟩ := ev_of (by omega) h1
    exact ⟨e :: S, _, h3, h4, St_push he hs ht, stk_push hk⟩
  · rcases h1 with h1 | h1
    · exact ⟨S, wt, h3, h4, St_none (by omega) hs ht h1, hk⟩
    · omega
theorem pt_holds {q : Nat → Nat} {cI cJ : ClassId} {n : Nat} {mk lt tg : Nat → Int32} {pa an la kn : Nat → Int64} {fb : Int32} {fh nb te wt bh : Nat → Int32} {z : Int64} {e0 : Nat} {E : List Nat} {r : Option Value} {w1 : va_W}
    (h : (bi z e0 = true ∧ (E.filter (bi z)).length < 60 ∧ r = some (.int (nI ((E.filter (bi z)).length + 1))) ∧ w1 = wX q cI cJ (nI n) mk lt tg pa an la kn fb fh nb (upd te (E.filter (bi z)).length (nI e0)) wt bh) ∨ ((bi z e0 = false ∨ 60 ≤ (E.filter (bi z)).length) ∧ r = some (.int (nI (E.filter (bi z)).length)) ∧ w1 = wX q cI cJ (nI n) mk lt tg pa an la kn fb fh nb te wt bh))
    (hh : holds te (E.filter (bi z))) (hl : E.length < 60) :
    ∃ te' : Nat → Int32, r = some (.int (nI ((E ++ [e0]).filter (bi z)).length)) ∧ w1 = wX q cI cJ (nI n) mk lt tg pa an la kn fb fh nb te' wt bh ∧ holds te' ((E ++ [e0]).filter (bi z)) := by
  have hf : (E.filter (bi z)).length ≤ E.length := List.length_filter_le _ _
  rcases h with ⟨h1, h2, h3, h4⟩ | ⟨h1, h3, h4⟩
  · have e1 : (E ++ [e0]).filter (bi z) = E.filter (bi z) ++ [e0] := by rw [List.filter_append, List.filter_cons_of_pos h1]; rfl
    refine ⟨_, ?_, h4, ?_⟩
    · rw [e1, h3, List.length_append]; rfl
    · rw [e1]; exact holds_push hh
  · rcases h1 with h1 | h1
    · have e1 : (E ++ [e0]).filter (bi z) = E.filter (bi z) := by
        rw [List.filter_append, List.filter_cons_of_neg (by rw [h1]; decide)]; simp
      exact ⟨te, by rw [e1, h3], h4, by rw [e1]; exact hh⟩
    · omega
theorem flen {z : Int64} (E : List Nat) : (E.filter (bi z)).length ≤ E.length := List.length_filter_le _ _
end
section
-- findText (by gen.py, specB.py)
set_option maxHeartbeats 4000000 in
set_option maxRecDepth 100000 in
theorem c_X0_addKnown (l : Launch) (D : va_G) (cI cJ : ClassId) (q : Nat → Nat) (n : Nat) (mk lt tg : Nat → Int32) (pa an la kn : Nat → Int64) (fb : Int32) (fh nb te wt bh : Nat → Int32) (a : Nat) (v : Int64) (ha : a < 4) : eg_MW D (tyL cI cJ) l yX0_addKnown wsX0_addKnown ({ frames := 1, cells := 0, slots := 0, locals := 21 }) 0 0 [.ref (q 0), .int (nI a), .long v] (wX q cI cJ (nI n) mk lt tg pa an la kn fb fh nb te wt bh) (fun r w1 => r = some (.int (nI (pc64 (v &&& (kn a ^^^ (-1)))))) ∧ w1 = wX q cI cJ (nI n) mk lt tg pa an la (vp_updL kn a (kn a ||| v)) fb fh nb te wt bh) := by
  refine Met.ofW (cc := cX0_addKnown) (maxL := 5) (ret := (some .int)) (by decide) rfl ?_
  intro p e s m args below meth c s₁ B hml hv
  obtain ⟨rfl, hP, hK, hD0⟩ := hv
  have hx := B.exec
  have hb := B.bytes
  have hr := B.returns
  have hts := atoms_spec (ws := wsX0_addKnown) B.pre
  have hown : s.vm.findClass RX0 = some m.cls := findClass_of_methodNamed B.named
  have hlocks := B.notSynchronized
  have hD := eg_D_of hD0
  have hS : va_S (eg_A (wX q cI cJ (nI n) mk lt tg pa an la kn fb fh nb te wt bh)) s.heap s.heap [] := va_S.rf
  have hin : ∀ w ∈ u_ws RX0 TX0 14, w ∈ wsX0_addKnown := by decide +kernel
  have hl := lv_entry ([.ref (q 0), .int (nI a), .long v]) (n := 5) (Nat.le_of_ble_eq_true rfl)
  rw [lg_entry_eq]
  generalize (lg_sl ([.ref (q 0), .int (nI a), .long v]) ++ List.replicate (5 - (lg_sl ([.ref (q 0), .int (nI a), .long v])).length) Slot.unset).toArray = ls at hl ⊢
  have hl : lv_has ls 5 [(0, .ref (q 0)), (1, .int (nI a)), (2, .long v)] := hl
  generalize h0H : s.heap = H at hP ⊢
  have hS : va_S (eg_A (wX q cI cJ (nI n) mk lt tg pa an la kn fb fh nb te wt bh)) s.heap H [] := by rw [← h0H]; exact hS
  generalize ([] : List Loc) = locs at hS ⊢
  refine lv_lload_n hx hb dX0_addKnown_0 rfl (lv_at hl 2 rfl) ?_
  refine lv_aload_n hx hb dX0_addKnown_1 rfl (lv_at hl 0 rfl) ?_
  refine va_get (D := D) (ci := 0) (v := .ref (q 7)) (C := RX0) (T := TX0) (N := 14) hx hb hts hin hown hK hP 0 rfl rfl 7 (by decide) (hts (.fieldLink RX0 33 "EditGraph" "knownSets" "[J") (by decide +kernel)) (fun _ h9 => h9) rfl dX0_addKnown_2 ?_
  refine lv_iload_n hx hb dX0_addKnown_5 rfl (lv_at hl 1 rfl) ?_
  refine eg_lald hx hb hK hP 7 1 rfl rfl (by omega) (by decide) dX0_addKnown_6 ?_
  refine lv_ldc2 hx hb hown (hts (.constantLong RX0 112 (-1)) (by decide +kernel)) dX0_addKnown_7 ?_
  refine lv_lxor hx hb dX0_addKnown_10 ?_
  refine lv_land hx hb dX0_addKnown_11 ?_
  refine eg_callS (As := [.long (v &&& ((kn a) ^^^ (-1)))]) (rest := []) hx hb hml hown hts hK (c_J13_bitCount_95d88 l D cI cJ (v &&& ((kn a) ^^^ (-1))) ) (va_cwS 1 hts gX0_addKnown_J13_bitCount_95d88 rfl rfl rfl (by decide +kernel) ⟨Nat.le_of_ble_eq_true rfl, Nat.le_of_ble_eq_true rfl⟩) rfl hl.1 rfl (Nat.le_of_ble_eq_true rfl) dX0_addKnown_12 ⟨Nat.zero_le _, Nat.zero_le _⟩ ?_
  refine lv_istore (lv' := [(4, .int (nI (pc64 (v &&& ((kn a) ^^^ (-1)))))), (0, .ref (q 0)), (1, .int (nI a)), (2, .long v)]) hx hb dX0_addKnown_15 hl (by decide) rfl (fun ls hl => ?_)
  refine lv_aload_n hx hb dX0_addKnown_17 rfl (lv_at hl 1 rfl) ?_
  refine va_get (D := D) (ci := 0) (v := .ref (q 7)) (C := RX0) (T := TX0) (N := 14) hx hb hts hin hown hK hP 0 rfl rfl 7 (by decide) (hts (.fieldLink RX0 33 "EditGraph" "knownSets" "[J") (by decide +kernel)) (fun _ h9 => h9) rfl dX0_addKnown_18 ?_
  refine lv_iload_n hx hb dX0_addKnown_21 rfl (lv_at hl 2 rfl) ?_
  refine lv_dup2_11 hx hb dX0_addKnown_22 rfl rfl ?_
  refine eg_lald hx hb hK hP 7 1 rfl rfl (by omega) (by decide) dX0_addKnown_23 ?_
  refine lv_lload_n hx hb dX0_addKnown_24 rfl (lv_at hl 3 rfl) ?_
  refine lv_lor hx hb dX0_addKnown_25 ?_
  refine eg_last hx hb hK hP hD rfl hS 7 1 rfl rfl (by omega) (by decide) dX0_addKnown_26 (w' := wX q cI cJ (nI n) mk lt tg pa an la (vp_updL kn a ((kn a) ||| v)) fb fh nb te wt bh) rfl (fun H locs hP hS => ?_)
  refine lv_iload hx hb dX0_addKnown_27 (lv_at hl 0 rfl) ?_
  exact W.iret hx hb hr (fun t9 ht9 _ => ⟨some (.int (nI (pc64 (v &&& ((kn a) ^^^ (-1)))))), (wX q cI cJ (nI n) mk lt tg pa an la (vp_updL kn a ((kn a) ||| v)) fb fh nb te wt bh), rfl, ⟨rfl, rfl⟩, rfl, by rw [ht9]; exact hP, hS.F ht9⟩) hS.2.2 dX0_addKnown_29
set_option maxHeartbeats 4000000 in
set_option maxRecDepth 100000 in
theorem c_X0_findText (l : Launch) (D : va_G) (cI cJ : ClassId) (q : Nat → Nat) (n : Nat) (mk lt tg : Nat → Int32) (pa an la kn : Nat → Int64) (fb : Int32) (fh nb te wt bh : Nat → Int32) (v : Int64) (O : List Nat) (hn : n ≤ 60) (hdl : ∀ k, k < n → bi v k = true → lt k = -1 → ∃ t, t < n ∧ tg k = nI t) (htr : ∃ f, Tr n fh nb f fb O) (hln : O.length ≤ 60) : eg_MW D (tyL cI cJ) l yX0_findText wsX0_findText ({ frames := 3, cells := 0, slots := 0, locals := 69 }) 0 0 [.ref (q 0), .long v] (wX q cI cJ (nI n) mk lt tg pa an la kn fb fh nb te wt bh) (fun r w1 => ∃ (te' wt' : Nat → Int32), r = some (.int (nI (O.filter (bi (sdX lt tg v n))).length)) ∧ w1 = wX q cI cJ (nI n) mk lt tg pa an la kn fb fh nb te' wt' bh ∧ holds te' (O.filter (bi (sdX lt tg v n)))) := by
  obtain ⟨fO, hTO⟩ := htr
  refine Met.ofW (cc := cX0_findText) (maxL := 9) (ret := (some .int)) (by decide) rfl ?_
  intro p e s m args below meth c s₁ B hml hv
  obtain ⟨rfl, hP, hK, hD0⟩ := hv
  have hx := B.exec
  have hb := B.bytes
  have hr := B.returns
  have hts := atoms_spec (ws := wsX0_findText) B.pre
  have hown : s.vm.findClass RX0 = some m.cls := findClass_of_methodNamed B.named
  have hlocks := B.notSynchronized
  have hD := eg_D_of hD0
  have hS : va_S (eg_A (wX q cI cJ (nI n) mk lt tg pa an la kn fb fh nb te wt bh)) s.heap s.heap [] := va_S.rf
  have hin : ∀ w ∈ u_ws RX0 TX0 14, w ∈ wsX0_findText := by decide +kernel
  have hl := lv_entry ([.ref (q 0), .long v]) (n := 9) (Nat.le_of_ble_eq_true rfl)
  rw [lg_entry_eq]
  generalize (lg_sl ([.ref (q 0), .long v]) ++ List.replicate (9 - (lg_sl ([.ref (q 0), .long v])).length) Slot.unset).toArray = ls at hl ⊢
  have hl : lv_has ls 9 [(0, .ref (q 0)), (1, .long v)] := hl
  generalize h0H : s.heap = H at hP ⊢
  have hS : va_S (eg_A (wX q cI cJ (nI n) mk lt tg pa an la kn fb fh nb te wt bh)) s.heap H [] := by rw [← h0H]; exact hS
  generalize ([] : List Loc) = locs at hS ⊢
  have loop : ∀ (f i : Nat) (E S R : List Nat) (te1 wt1 : Nat → Int32) (H : Heap) (locs : List Loc) (ls : Array Slot), 60 < i + f → i ≤ 60 → E.length = i → E ++ R = O → St n fh nb S R → stk wt1 S → holds te1 (E.filter (bi (sdX lt tg v n))) → va_P D vwCl (wX q cI cJ (nI n) mk lt tg pa an la kn fb fh nb te1 wt1 bh) H → va_S (eg_A (wX q cI cJ (nI n) mk lt tg pa an la kn fb fh nb te wt bh)) s.heap H locs → lv_has ls 9 [(0, .ref (q 0)), (1, .long v), (3, .long (sdX lt tg v n)), (5, .int (nI ((E.filter (bi (sdX lt tg v n))).length))), (6, .int (nI S.length)), (7, .int (nI i))] → W p l e (headSpec wsX0_findText ({ frames := 3, cells := 0, slots := 0, locals := 69 })).room s m ([.ref (q 0), .long v] : List Value).toArray below meth c H locs 0 0 (MQ below (eg_Wq D (wX q cI cJ (nI n) mk lt tg pa an la kn fb fh nb te wt bh) (fun r w1 => ∃ (te' wt' : Nat → Int32), r = some (.int (nI (O.filter (bi (sdX lt tg v n))).length)) ∧ w1 = wX q cI cJ (nI n) mk lt tg pa an la kn fb fh nb te' wt' bh ∧ holds te' (O.filter (bi (sdX lt tg v n))))) ([.ref (q 0), .long v] : List Value).toArray s 0 0 (eg_A (wX q cI cJ (nI n) mk lt tg pa an la kn fb fh nb te wt bh))) (F0 m 23 ls []) := by
    intro f
    induction f with
    | zero => intro i E S R te1 wt1  H locs ls h1 h2 h3 h4 h5 h6 h7 hP hS hl; omega
    | succ f ih =>
      intro i E S R te1 wt1  H locs ls h1 h2 h3 h4 h5 h6 h7 hP hS hl
      have hEi := h3
      have hER := h4
      have hSt := h5
      have hstk := h6
      have hhold := h7
      have hSl := St_len (by omega) S R hSt
      have hOl0 : E.length + R.length = O.length := by rw [← hER, List.length_append]
      refine lv_iload hx hb dX0_findText_23 (lv_at hl 5 rfl) ?_
      refine lv_bipush (v := nI 60) hx hb dX0_findText_25 (by decide +kernel) ?_
      refine eg_icmp_ge (tgt := 94) hx hb dX0_findText_27 (by decide) (by omega) (by omega) (fun c27 => ?_) (fun c27 => ?_)
      · refine lv_iload hx hb dX0_findText_94 (lv_at hl 3 rfl) ?_
        have hEO : E = O := by
          have hR0 : R = [] := by
            first
            | (have hc := c32; have : S = [] := List.length_eq_zero_iff.mp hc; subst this; exact hSt)
            | (have hc := c27; have hOl : E.length + R.length = O.length := (by rw [← hER, List.length_append]); exact List.length_eq_zero_iff.mp (by omega))
          rw [← hER, hR0, List.append_nil]
        subst hEO
        exact W.iret hx hb hr (fun t9 ht9 _ => ⟨some (.int (nI (E.filter (bi (sdX lt tg v n))).length)), (wX q cI cJ (nI n) mk lt tg pa an la kn fb fh nb te1 wt1 bh), rfl, ⟨te1, wt1, rfl, rfl, hhold⟩, rfl, by rw [ht9]; exact hP, hS.F ht9⟩) hS.2.2 dX0_findText_96
      · refine lv_iload hx hb dX0_findText_30 (lv_at hl 4 rfl) ?_
        refine eg_if_le (tgt := 94) hx hb dX0_findText_32 (by decide) (by omega) (fun c32 => ?_) (fun c32 => ?_)
        · refine lv_iload hx hb dX0_findText_94 (lv_at hl 3 rfl) ?_
          have hEO : E = O := by
            have hR0 : R = [] := by
              first
              | (have hc := c32; have : S = [] := List.length_eq_zero_iff.mp hc; subst this; exact hSt)
              | (have hc := c27; have hOl : E.length + R.length = O.length := (by rw [← hER, List.length_append]); exact List.length_eq_zero_iff.mp (by omega))
            rw [← hER, hR0, List.append_nil]
          subst hEO
          exact W.iret hx hb hr (fun t9 ht9 _ => ⟨some (.int (nI (E.filter (bi (sdX lt tg v n))).length)), (wX q cI cJ (nI n) mk lt tg pa an la kn fb fh nb te1 wt1 bh), rfl, ⟨te1, wt1, rfl, rfl, hhold⟩, rfl, by rw [ht9]; exact hP, hS.F ht9⟩) hS.2.2 dX0_findText_96
        · obtain ⟨e0, S2, rfl⟩ : ∃ e0 S2, S = e0 :: S2 := by cases S with | nil => exact absurd c32 (Nat.lt_irrefl 0) | cons x y => exact ⟨x, y, rfl⟩
          obtain ⟨f2, A2, B2, R2, he0, hRe, hTA, hTB, hSt2⟩ := St_pop (by omega) hSt
          have hRl : R.length = A2.length + (B2.length + R2.length) + 1 := by rw [hRe]; simp only [List.length_cons, List.length_append]
          have hOl : E.length + R.length = O.length := by rw [← hER, List.length_append]
          have hS2l := St_len (by omega) S2 R2 hSt2
          have hfl := flen (z := (sdX lt tg v n)) E
          have hl : lv_has ls 9 [(0, .ref (q 0)), (1, .long v), (3, .long (sdX lt tg v n)), (5, .int (nI ((E.filter (bi (sdX lt tg v n))).length))), (6, .int (nI (S2.length + 1))), (7, .int (nI i))] := hl
          refine lv_iinc (v := nI (S2.length + 1 - 1)) (lv' := [(6, .int (nI (S2.length + 1 - 1))), (0, .ref (q 0)), (1, .long v), (3, .long (sdX lt tg v n)), (5, .int (nI ((E.filter (bi (sdX lt tg v n))).length))), (7, .int (nI i))]) hx hb dX0_findText_35 hl (k := 4) rfl (eg_dec1 (by omega)) (by decide) rfl (fun ls hl => ?_)
          have hl : lv_has ls 9 [(6, .int (nI S2.length)), (0, .ref (q 0)), (1, .long v), (3, .long (sdX lt tg v n)), (5, .int (nI ((E.filter (bi (sdX lt tg v n))).length))), (7, .int (nI i))] := hl
          refine lv_aload_n hx hb dX0_findText_38 rfl (lv_at hl 1 rfl) ?_
          refine va_get (D := D) (ci := 0) (v := .ref (q 11)) (C := RX0) (T := TX0) (N := 14) hx hb hts hin hown hK hP 0 rfl rfl 12 (by decide) (hts (.fieldLink RX0 48 "EditGraph" "waiting" "[I") (by decide +kernel)) (fun _ h9 => h9) rfl dX0_findText_39 ?_
          refine lv_iload hx hb dX0_findText_42 (lv_at hl 0 rfl) ?_
          refine eg_iald hx hb hK hP 11 0 rfl rfl (by omega) (by decide) dX0_findText_44 ?_
          rw [hstk.1]
          refine lv_istore (lv' := [(8, .int (nI e0)), (6, .int (nI S2.length)), (0, .ref (q 0)), (1, .long v), (3, .long (sdX lt tg v n)), (5, .int (nI ((E.filter (bi (sdX lt tg v n))).length))), (7, .int (nI i))]) hx hb dX0_findText_45 hl (by decide) rfl (fun ls hl => ?_)
          refine lv_aload_n hx hb dX0_findText_47 rfl (lv_at hl 2 rfl) ?_
          refine lv_lload_n hx hb dX0_findText_48 rfl (lv_at hl 4 rfl) ?_
          refine lv_iload hx hb dX0_findText_49 (lv_at hl 0 rfl) ?_
          refine lv_iload hx hb dX0_findText_51 (lv_at hl 5 rfl) ?_
          refine eg_callWV (As := [.long (sdX lt tg v n), .int (nI e0), .int (nI ((E.filter (bi (sdX lt tg v n))).length))]) (rest := []) hx hb hml hown hts hK hP hD rfl hS (c_X0_putText l D cI cJ q n mk lt tg pa an la kn fb fh nb te1 wt1 bh (sdX lt tg v n) e0 (E.filter (bi (sdX lt tg v n))).length (by omega) (by omega)) (cwV 3 hts gX0_findText_X0_putText rfl rfl rfl (by decide +kernel) ⟨Nat.le_of_ble_eq_true rfl, Nat.le_of_ble_eq_true rfl⟩) (va_recv hK hP (ci := 0) (q0 := 0) rfl rfl) rfl hl.1 rfl (Nat.le_of_ble_eq_true rfl) dX0_findText_53 ⟨Nat.zero_le _, Nat.zero_le _⟩ (fun v9 w9 H locs hR9 hw9 hP hS => ?_)
          obtain ⟨te2, rfl, rfl, hhold2⟩ := pt_holds hR9 hhold (by omega)
          refine lv_istore (lv' := [(5, .int (nI (((E ++ [e0]).filter (bi (sdX lt tg v n))).length))), (8, .int (nI e0)), (6, .int (nI S2.length)), (0, .ref (q 0)), (1, .long v), (3, .long (sdX lt tg v n)), (7, .int (nI i))]) hx hb dX0_findText_56 hl (by decide) rfl (fun ls hl => ?_)
          refine lv_aload_n hx hb dX0_findText_58 rfl (lv_at hl 3 rfl) ?_
          refine lv_aload_n hx hb dX0_findText_59 rfl (lv_at hl 3 rfl) ?_
          refine va_get (D := D) (ci := 0) (v := .ref (q 9)) (C := RX0) (T := TX0) (N := 14) hx hb hts hin hown hK hP 0 rfl rfl 10 (by decide) (hts (.fieldLink RX0 42 "EditGraph" "nextBeside" "[I") (by decide +kernel)) (fun _ h9 => h9) rfl dX0_findText_60 ?_
          refine lv_iload hx hb dX0_findText_63 (lv_at hl 1 rfl) ?_
          refine eg_iald hx hb hK hP 9 0 rfl rfl (by omega) (by decide) dX0_findText_65 ?_
          refine lv_iload hx hb dX0_findText_66 (lv_at hl 2 rfl) ?_
          refine eg_callWV (As := [.int (nb e0), .int (nI S2.length)]) (rest := []) hx hb hml hown hts hK hP hD rfl hS (c_X0_putWaiting l D cI cJ q n mk lt tg pa an la kn fb fh nb te2 wt1 bh (nb e0) S2.length (by omega) (by omega)) (cwV 2 hts gX0_findText_X0_putWaiting rfl rfl rfl (by decide +kernel) ⟨Nat.le_of_ble_eq_true rfl, Nat.le_of_ble_eq_true rfl⟩) (va_recv hK hP (ci := 0) (q0 := 0) rfl rfl) rfl hl.1 rfl (Nat.le_of_ble_eq_true rfl) dX0_findText_68 ⟨Nat.zero_le _, Nat.zero_le _⟩ (fun v9 w9 H locs hR9 hw9 hP hS => ?_)
          obtain ⟨S3, wt3, rfl, rfl, hSt71, hstk71⟩ := pw_St (S := S2) hn hR9 hTB hSt2 hstk.2 (by omega)
          have hS3l := St_len (by omega) S3 _ hSt71
          rw [List.length_append] at hS3l
          refine lv_istore (lv' := [(6, .int (nI S3.length)), (5, .int (nI (((E ++ [e0]).filter (bi (sdX lt tg v n))).length))), (8, .int (nI e0)), (0, .ref (q 0)), (1, .long v), (3, .long (sdX lt tg v n)), (7, .int (nI i))]) hx hb dX0_findText_71 hl (by decide) rfl (fun ls hl => ?_)
          refine lv_aload_n hx hb dX0_findText_73 rfl (lv_at hl 3 rfl) ?_
          refine lv_aload_n hx hb dX0_findText_74 rfl (lv_at hl 3 rfl) ?_
          refine va_get (D := D) (ci := 0) (v := .ref (q 8)) (C := RX0) (T := TX0) (N := 14) hx hb hts hin hown hK hP 0 rfl rfl 9 (by decide) (hts (.fieldLink RX0 39 "EditGraph" "firstHanging" "[I") (by decide +kernel)) (fun _ h9 => h9) rfl dX0_findText_75 ?_
          refine lv_iload hx hb dX0_findText_78 (lv_at hl 2 rfl) ?_
          refine eg_iald hx hb hK hP 8 0 rfl rfl (by omega) (by decide) dX0_findText_80 ?_
          refine lv_iload hx hb dX0_findText_81 (lv_at hl 0 rfl) ?_
          refine eg_callWV (As := [.int (fh e0), .int (nI S3.length)]) (rest := []) hx hb hml hown hts hK hP hD rfl hS (c_X0_putWaiting l D cI cJ q n mk lt tg pa an la kn fb fh nb te2 wt3 bh (fh e0) S3.length (by omega) (by omega)) (cwV 2 hts gX0_findText_X0_putWaiting rfl rfl rfl (by decide +kernel) ⟨Nat.le_of_ble_eq_true rfl, Nat.le_of_ble_eq_true rfl⟩) (va_recv hK hP (ci := 0) (q0 := 0) rfl rfl) rfl hl.1 rfl (Nat.le_of_ble_eq_true rfl) dX0_findText_83 ⟨Nat.zero_le _, Nat.zero_le _⟩ (fun v9 w9 H locs hR9 hw9 hP hS => ?_)
          obtain ⟨S4, wt4, rfl, rfl, hSt86, hstk86⟩ := pw_St (S := S3) hn hR9 hTA hSt71 hstk71 (by omega)
          refine lv_istore (lv' := [(6, .int (nI S4.length)), (5, .int (nI (((E ++ [e0]).filter (bi (sdX lt tg v n))).length))), (8, .int (nI e0)), (0, .ref (q 0)), (1, .long v), (3, .long (sdX lt tg v n)), (7, .int (nI i))]) hx hb dX0_findText_86 hl (by decide) rfl (fun ls hl => ?_)
          refine lv_iinc (v := nI (i + 1)) (lv' := [(7, .int (nI (i + 1))), (6, .int (nI S4.length)), (5, .int (nI (((E ++ [e0]).filter (bi (sdX lt tg v n))).length))), (8, .int (nI e0)), (0, .ref (q 0)), (1, .long v), (3, .long (sdX lt tg v n))]) hx hb dX0_findText_88 hl (k := 6) rfl (eg_inc1 _) (by decide) rfl (fun ls hl => ?_)
          refine lv_goto (tgt := 23) hx hb dX0_findText_91 (by decide) ?_
          exact ih (i + 1) (E ++ [e0]) S4 (A2 ++ (B2 ++ R2)) te2 wt4 H locs _ (by omega) (by omega) (by rw [List.length_append, hEi]; rfl) (by rw [← hER, hRe, List.append_assoc]; rfl) hSt86 hstk86 hhold2 hP hS (lv_sub hl [4, 5, 6, 2, 1, 0] rfl)
  refine lv_aload_n hx hb dX0_findText_0 rfl (lv_at hl 0 rfl) ?_
  refine lv_lload_n hx hb dX0_findText_1 rfl (lv_at hl 1 rfl) ?_
  refine eg_callV (As := [.long v]) (rest := []) hx hb hml hown hts hK hP (c_X0_standingIn l D cI cJ q n mk lt tg pa an la kn fb fh nb te wt bh v (by omega) hdl) (cwV 1 hts gX0_findText_X0_standingIn rfl rfl rfl (by decide +kernel) ⟨Nat.le_of_ble_eq_true rfl, Nat.le_of_ble_eq_true rfl⟩) (va_recv hK hP (ci := 0) (q0 := 0) rfl rfl) rfl hl.1 rfl (Nat.le_of_ble_eq_true rfl) dX0_findText_2 ⟨Nat.zero_le _, Nat.zero_le _⟩ ?_
  refine lv_lstore_n (lv' := [(3, .long (sdX lt tg v n)), (0, .ref (q 0)), (1, .long v)]) hx hb dX0_findText_5 rfl hl (by decide) rfl (fun ls hl => ?_)
  refine lv_iconst (v := nI 0) hx hb dX0_findText_6 (by decide +kernel) ?_
  refine lv_istore (lv' := [(5, .int (nI 0)), (3, .long (sdX lt tg v n)), (0, .ref (q 0)), (1, .long v)]) hx hb dX0_findText_7 hl (by decide) rfl (fun ls hl => ?_)
  refine lv_aload_n hx hb dX0_findText_9 rfl (lv_at hl 2 rfl) ?_
  refine lv_aload_n hx hb dX0_findText_10 rfl (lv_at hl 2 rfl) ?_
  refine va_get (D := D) (ci := 0) (v := .int fb) (C := RX0) (T := TX0) (N := 14) hx hb hts hin hown hK hP 0 rfl rfl 8 (by decide) (hts (.fieldLink RX0 36 "EditGraph" "firstAtBeginning" "I") (by decide +kernel)) (fun _ h9 => h9) rfl dX0_findText_11 ?_
  refine lv_iconst (v := nI 0) hx hb dX0_findText_14 (by decide +kernel) ?_
  refine eg_callWV (As := [.int fb, .int (nI 0)]) (rest := []) hx hb hml hown hts hK hP hD rfl hS (c_X0_putWaiting l D cI cJ q n mk lt tg pa an la kn fb fh nb te wt bh fb 0 (by omega) (by omega)) (cwV 2 hts gX0_findText_X0_putWaiting rfl rfl rfl (by decide +kernel) ⟨Nat.le_of_ble_eq_true rfl, Nat.le_of_ble_eq_true rfl⟩) (va_recv hK hP (ci := 0) (q0 := 0) rfl rfl) rfl hl.1 rfl (Nat.le_of_ble_eq_true rfl) dX0_findText_15 ⟨Nat.zero_le _, Nat.zero_le _⟩ (fun v9 w9 H locs hR9 hw9 hP hS => ?_)
  obtain ⟨S1, wt1, rfl, rfl, hSt, hstk⟩ : ∃ (S' : List Nat) (wt' : Nat → Int32), v9 = some (.int (nI S'.length)) ∧ w9 = wX q cI cJ (nI n) mk lt tg pa an la kn fb fh nb te wt' bh ∧ St n fh nb S' (O ++ []) ∧ stk wt' S' := pw_St (S := []) (R := []) hn hR9 hTO rfl trivial (by decide)
  refine lv_istore (lv' := [(6, .int (nI S1.length)), (5, .int (nI 0)), (3, .long (sdX lt tg v n)), (0, .ref (q 0)), (1, .long v)]) hx hb dX0_findText_18 hl (by decide) rfl (fun ls hl => ?_)
  refine lv_iconst (v := nI 0) hx hb dX0_findText_20 (by decide +kernel) ?_
  refine lv_istore (lv' := [(7, .int (nI 0)), (6, .int (nI S1.length)), (5, .int (nI 0)), (3, .long (sdX lt tg v n)), (0, .ref (q 0)), (1, .long v)]) hx hb dX0_findText_21 hl (by decide) rfl (fun ls hl => ?_)
  exact loop 61 0 [] S1 (O ++ []) te wt1 H locs _ (by omega) (by omega) rfl (by simp) hSt hstk (holds_nil te) hP hS (lv_sub hl [4, 5, 3, 2, 1, 0] rfl)
end
section
-- the chain that layList makes
section
variable {n : Nat} {lt tg : Nat → Int32} {v : Int64} {i t : Nat} {bh1 : Nat → Int32} {x1 : Int32}
theorem Ch_s (h : bi v i = false ∨ ins lt i = false) (hC : Ch bh1 x1 (lay (vI lt v) tg i)) : Ch bh1 x1 (lay (vI lt v) tg (i + 1)) := by
  have e : vI lt v i = false := by rcases h with h | h <;> simp [vI, h]
  rw [lay, e]
  exact hC
theorem Ch_t (hn : n ≤ 60) (hc : hang (vI lt v) tg n) (hi : i < n) (h1 : bi v i = true) (h2 : ins lt i = true) (eT : tg i = nI t) (ht : t < n) (hC : Ch bh1 x1 (lay (vI lt v) tg i)) : Ch (upd (upd bh1 i (bh1 t)) t (nI i)) x1 (lay (vI lt v) tg (i + 1)) := by
  have e : vI lt v i = true := by simp [vI, h1, h2]
  have hti : t < i := by
    rcases hc i hi e with q | ⟨t', q1, q2, q3⟩
    · rw [eT] at q; exact absurd q (nI_m1 (by omega))
    · rw [eT] at q2; have := nI_in1 (by omega) (by omega) q2; omega
  rw [lay, if_pos e, eT]
  exact Ch_hang (by omega) (by omega) (by omega) (fun e1 g1 g2 => by rw [pk_un g1, pk_un g2]) pk_us (by rw [pk_un (by omega), pk_us]) x1 _ (lay_nodup (by omega) (hang_le hc (by omega))) (fun q => by have := (lay_mem q).1; omega) (fun y hy => by have := (lay_mem hy).1; omega) hC
theorem Ch_f (hn : n ≤ 60) (hc : hang (vI lt v) tg n) (hi : i < n) (h1 : bi v i = true) (h2 : ins lt i = true) (hv : ev n (tg i) = false) (hC : Ch bh1 x1 (lay (vI lt v) tg i)) : Ch (upd bh1 i x1) (nI i) (lay (vI lt v) tg (i + 1)) := by
  have e : vI lt v i = true := by simp [vI, h1, h2]
  have hm : tg i = -1 := by
    rcases hc i hi e with q | ⟨t', q1, q2, q3⟩
    · exact q
    · rw [q2, ev_nI (by omega) (by omega)] at hv; cases hv
  rw [lay, if_pos e, hm, insA_front]
  exact ⟨rfl, by rw [pk_us]; exact Ch_keep _ _ (fun y hy => pk_un (by have := (lay_mem hy).1; omega)) hC⟩
theorem Ch_pop {R : List Nat} (hC : Ch bh1 x1 R) (h : ev n x1 = true) : ∃ (e0 : Nat) (R2 : List Nat), R = e0 :: R2 ∧ x1 = nI e0 ∧ Ch bh1 (bh1 e0) R2 := by
  cases R with
  | nil => rw [show x1 = -1 from hC, ev_m1] at h; cases h
  | cons e0 R2 => exact ⟨e0, R2, rfl, hC.1, hC.2⟩
theorem Ch_end {R : List Nat} (hn : n < 2 ^ 31) (hC : Ch bh1 x1 R) (hR : ∀ e, e ∈ R → e < n) (h : ev n x1 = false) : R = [] := by
  cases R with
  | nil => rfl
  | cons e0 R2 => rw [hC.1, ev_nI hn (hR e0 List.mem_cons_self)] at h; cases h
end
end
section
-- layList, findTextByList (by gen.py, specB.py)
set_option maxHeartbeats 4000000 in
set_option maxRecDepth 100000 in
theorem c_X0_layList (l : Launch) (D : va_G) (cI cJ : ClassId) (q : Nat → Nat) (n : Nat) (mk lt tg : Nat → Int32) (pa an la kn : Nat → Int64) (fb : Int32) (fh nb te wt bh : Nat → Int32) (v : Int64) (hn : n ≤ 60) (hc : hang (vI lt v) tg n) : eg_MW D (tyL cI cJ) l yX0_layList wsX0_layList ({ frames := 2, cells := 0, slots := 0, locals := 42 }) 0 0 [.ref (q 0), .long v] (wX q cI cJ (nI n) mk lt tg pa an la kn fb fh nb te wt bh) (fun r w1 => ∃ (bh' : Nat → Int32) (x : Int32), r = some (.int x) ∧ w1 = wX q cI cJ (nI n) mk lt tg pa an la kn fb fh nb te wt bh' ∧ Ch bh' x (lay (vI lt v) tg n)) := by
  refine Met.ofW (cc := cX0_layList) (maxL := 6) (ret := (some .int)) (by decide) rfl ?_
  intro p e s m args below meth c s₁ B hml hv
  obtain ⟨rfl, hP, hK, hD0⟩ := hv
  have hx := B.exec
  have hb := B.bytes
  have hr := B.returns
  have hts := atoms_spec (ws := wsX0_layList) B.pre
  have hown : s.vm.findClass RX0 = some m.cls := findClass_of_methodNamed B.named
  have hlocks := B.notSynchronized
  have hD := eg_D_of hD0
  have hS : va_S (eg_A (wX q cI cJ (nI n) mk lt tg pa an la kn fb fh nb te wt bh)) s.heap s.heap [] := va_S.rf
  have hin : ∀ w ∈ u_ws RX0 TX0 14, w ∈ wsX0_layList := by decide +kernel
  have hl := lv_entry ([.ref (q 0), .long v]) (n := 6) (Nat.le_of_ble_eq_true rfl)
  rw [lg_entry_eq]
  generalize (lg_sl ([.ref (q 0), .long v]) ++ List.replicate (6 - (lg_sl ([.ref (q 0), .long v])).length) Slot.unset).toArray = ls at hl ⊢
  have hl : lv_has ls 6 [(0, .ref (q 0)), (1, .long v)] := hl
  generalize h0H : s.heap = H at hP ⊢
  have hS : va_S (eg_A (wX q cI cJ (nI n) mk lt tg pa an la kn fb fh nb te wt bh)) s.heap H [] := by rw [← h0H]; exact hS
  generalize ([] : List Loc) = locs at hS ⊢
  have loop : ∀ (f i : Nat) (x1 : Int32) (bh1 : Nat → Int32) (H : Heap) (locs : List Loc) (ls : Array Slot), n < i + f → i ≤ n → Ch bh1 x1 (lay (vI lt v) tg i) → va_P D vwCl (wX q cI cJ (nI n) mk lt tg pa an la kn fb fh nb te wt bh1) H → va_S (eg_A (wX q cI cJ (nI n) mk lt tg pa an la kn fb fh nb te wt bh)) s.heap H locs → lv_has ls 6 [(0, .ref (q 0)), (1, .long v), (3, .int x1), (4, .int (nI i))] → W p l e (headSpec wsX0_layList ({ frames := 2, cells := 0, slots := 0, locals := 42 })).room s m ([.ref (q 0), .long v] : List Value).toArray below meth c H locs 0 0 (MQ below (eg_Wq D (wX q cI cJ (nI n) mk lt tg pa an la kn fb fh nb te wt bh) (fun r w1 => ∃ (bh' : Nat → Int32) (x : Int32), r = some (.int x) ∧ w1 = wX q cI cJ (nI n) mk lt tg pa an la kn fb fh nb te wt bh' ∧ Ch bh' x (lay (vI lt v) tg n))) ([.ref (q 0), .long v] : List Value).toArray s 0 0 (eg_A (wX q cI cJ (nI n) mk lt tg pa an la kn fb fh nb te wt bh))) (F0 m 5 ls []) := by
    intro f
    induction f with
    | zero => intro i x1 bh1  H locs ls h1 h2 h3 hP hS hl; omega
    | succ f ih =>
      intro i x1 bh1  H locs ls h1 h2 h3 hP hS hl
      have hCh := h3
      refine lv_iload hx hb dX0_layList_5 (lv_at hl 3 rfl) ?_
      refine lv_aload_n hx hb dX0_layList_7 rfl (lv_at hl 0 rfl) ?_
      refine va_get (D := D) (ci := 0) (v := .int (nI n)) (C := RX0) (T := TX0) (N := 14) hx hb hts hin hown hK hP 0 rfl rfl 0 (by decide) (hts (.fieldLink RX0 7 "EditGraph" "eventCount" "I") (by decide +kernel)) (fun _ h9 => h9) rfl dX0_layList_8 ?_
      refine eg_icmp_ge (tgt := 93) hx hb dX0_layList_11 (by decide) (by omega) (by omega) (fun c11 => ?_) (fun c11 => ?_)
      · refine lv_iload_n hx hb dX0_layList_93 rfl (lv_at hl 2 rfl) ?_
        have ein : i = n := by omega
        rw [ein] at hCh
        exact W.iret hx hb hr (fun t9 ht9 _ => ⟨some (.int x1), (wX q cI cJ (nI n) mk lt tg pa an la kn fb fh nb te wt bh1), rfl, ⟨bh1, x1, rfl, rfl, hCh⟩, rfl, by rw [ht9]; exact hP, hS.F ht9⟩) hS.2.2 dX0_layList_94
      · refine lv_lload_n hx hb dX0_layList_14 rfl (lv_at hl 1 rfl) ?_
        refine lv_iload hx hb dX0_layList_15 (lv_at hl 3 rfl) ?_
        refine eg_callS (As := [.long v, .int (nI i)]) (rest := []) hx hb hml hown hts hK (c_X0_has l D cI cJ v i (by omega)) (va_cwS 2 hts gX0_layList_X0_has rfl rfl rfl (by decide +kernel) ⟨Nat.le_of_ble_eq_true rfl, Nat.le_of_ble_eq_true rfl⟩) rfl hl.1 rfl (Nat.le_of_ble_eq_true rfl) dX0_layList_17 ⟨Nat.zero_le _, Nat.zero_le _⟩ ?_
        refine eg_ifeq_b (tgt := 87) hx hb dX0_layList_20 (by decide) (fun c20 => ?_) (fun c20 => ?_)
        · refine lv_iinc (v := nI (i + 1)) (lv' := [(4, .int (nI (i + 1))), (0, .ref (q 0)), (1, .long v), (3, .int x1)]) hx hb dX0_layList_87 hl (k := 3) rfl (eg_inc1 _) (by decide) rfl (fun ls hl => ?_)
          refine lv_goto (tgt := 5) hx hb dX0_layList_90 (by decide) ?_
          exact ih (i + 1) x1 bh1 H locs _ (by omega) (by omega) (Ch_s (by first | exact Or.inl c20 | exact Or.inr c29) hCh) hP hS (lv_sub hl [1, 2, 3, 0] rfl)
        · refine lv_aload_n hx hb dX0_layList_23 rfl (lv_at hl 0 rfl) ?_
          refine lv_iload hx hb dX0_layList_24 (lv_at hl 3 rfl) ?_
          refine eg_callV (As := [.int (nI i)]) (rest := []) hx hb hml hown hts hK hP (c_X0_isInsert l D cI cJ q n mk lt tg pa an la kn fb fh nb te wt bh1 i (by omega)) (cwV 1 hts gX0_layList_X0_isInsert rfl rfl rfl (by decide +kernel) ⟨Nat.le_of_ble_eq_true rfl, Nat.le_of_ble_eq_true rfl⟩) (va_recv hK hP (ci := 0) (q0 := 0) rfl rfl) rfl hl.1 rfl (Nat.le_of_ble_eq_true rfl) dX0_layList_26 ⟨Nat.zero_le _, Nat.zero_le _⟩ ?_
          refine eg_ifeq_b (tgt := 87) hx hb dX0_layList_29 (by decide) (fun c29 => ?_) (fun c29 => ?_)
          · refine lv_iinc (v := nI (i + 1)) (lv' := [(4, .int (nI (i + 1))), (0, .ref (q 0)), (1, .long v), (3, .int x1)]) hx hb dX0_layList_87 hl (k := 3) rfl (eg_inc1 _) (by decide) rfl (fun ls hl => ?_)
            refine lv_goto (tgt := 5) hx hb dX0_layList_90 (by decide) ?_
            exact ih (i + 1) x1 bh1 H locs _ (by omega) (by omega) (Ch_s (by first | exact Or.inl c20 | exact Or.inr c29) hCh) hP hS (lv_sub hl [1, 2, 3, 0] rfl)
          · refine lv_aload_n hx hb dX0_layList_32 rfl (lv_at hl 0 rfl) ?_
            refine va_get (D := D) (ci := 0) (v := .ref (q 3)) (C := RX0) (T := TX0) (N := 14) hx hb hts hin hown hK hP 0 rfl rfl 3 (by decide) (hts (.fieldLink RX0 20 "EditGraph" "targets" "[I") (by decide +kernel)) (fun _ h9 => h9) rfl dX0_layList_33 ?_
            refine lv_iload hx hb dX0_layList_36 (lv_at hl 3 rfl) ?_
            refine eg_iald hx hb hK hP 3 0 rfl rfl (by omega) (by decide) dX0_layList_38 ?_
            refine lv_istore (lv' := [(5, .int (tg i)), (0, .ref (q 0)), (1, .long v), (3, .int x1), (4, .int (nI i))]) hx hb dX0_layList_39 hl (by decide) rfl (fun ls hl => ?_)
            refine lv_aload_n hx hb dX0_layList_41 rfl (lv_at hl 1 rfl) ?_
            refine lv_iload hx hb dX0_layList_42 (lv_at hl 0 rfl) ?_
            refine eg_callV (As := [.int (tg i)]) (rest := []) hx hb hml hown hts hK hP (c_X0_isEvent l D cI cJ q n mk lt tg pa an la kn fb fh nb te wt bh1 (tg i) ) (cwV 1 hts gX0_layList_X0_isEvent rfl rfl rfl (by decide +kernel) ⟨Nat.le_of_ble_eq_true rfl, Nat.le_of_ble_eq_true rfl⟩) (va_recv hK hP (ci := 0) (q0 := 0) rfl rfl) rfl hl.1 rfl (Nat.le_of_ble_eq_true rfl) dX0_layList_44 ⟨Nat.zero_le _, Nat.zero_le _⟩ ?_
            refine eg_ifeq_b (tgt := 76) hx hb dX0_layList_47 (by decide) (fun c47 => ?_) (fun c47 => ?_)
            · refine lv_aload_n hx hb dX0_layList_76 rfl (lv_at hl 1 rfl) ?_
              refine va_get (D := D) (ci := 0) (v := .ref (q 12)) (C := RX0) (T := TX0) (N := 14) hx hb hts hin hown hK hP 0 rfl rfl 13 (by decide) (hts (.fieldLink RX0 51 "EditGraph" "behind" "[I") (by decide +kernel)) (fun _ h9 => h9) rfl dX0_layList_77 ?_
              refine lv_iload hx hb dX0_layList_80 (lv_at hl 4 rfl) ?_
              refine lv_iload_n hx hb dX0_layList_82 rfl (lv_at hl 3 rfl) ?_
              refine eg_iast hx hb hK hP hD rfl hS 12 0 rfl rfl (by omega) (by decide) dX0_layList_83 (w' := wX q cI cJ (nI n) mk lt tg pa an la kn fb fh nb te wt (upd bh1 i x1)) rfl (fun H locs hP hS => ?_)
              refine lv_iload hx hb dX0_layList_84 (lv_at hl 4 rfl) ?_
              refine lv_istore_n (lv' := [(3, .int (nI i)), (5, .int (tg i)), (0, .ref (q 0)), (1, .long v), (4, .int (nI i))]) hx hb dX0_layList_86 rfl hl (by decide) rfl (fun ls hl => ?_)
              refine lv_iinc (v := nI (i + 1)) (lv' := [(4, .int (nI (i + 1))), (3, .int (nI i)), (5, .int (tg i)), (0, .ref (q 0)), (1, .long v)]) hx hb dX0_layList_87 hl (k := 4) rfl (eg_inc1 _) (by decide) rfl (fun ls hl => ?_)
              refine lv_goto (tgt := 5) hx hb dX0_layList_90 (by decide) ?_
              exact ih (i + 1) (nI i) (upd bh1 i x1) H locs _ (by omega) (by omega) (Ch_f hn hc (by omega) c20 c29 c47 hCh) hP hS (lv_sub hl [3, 4, 1, 0] rfl)
            · obtain ⟨t, htn, eT⟩ := ev_of (by omega) c47
              have hl : lv_has ls 6 [(5, .int (nI t)), (0, .ref (q 0)), (1, .long v), (3, .int x1), (4, .int (nI i))] := by rw [← eT]; exact hl
              refine lv_aload_n hx hb dX0_layList_50 rfl (lv_at hl 1 rfl) ?_
              refine va_get (D := D) (ci := 0) (v := .ref (q 12)) (C := RX0) (T := TX0) (N := 14) hx hb hts hin hown hK hP 0 rfl rfl 13 (by decide) (hts (.fieldLink RX0 51 "EditGraph" "behind" "[I") (by decide +kernel)) (fun _ h9 => h9) rfl dX0_layList_51 ?_
              refine lv_iload hx hb dX0_layList_54 (lv_at hl 4 rfl) ?_
              refine lv_aload_n hx hb dX0_layList_56 rfl (lv_at hl 1 rfl) ?_
              refine va_get (D := D) (ci := 0) (v := .ref (q 12)) (C := RX0) (T := TX0) (N := 14) hx hb hts hin hown hK hP 0 rfl rfl 13 (by decide) (hts (.fieldLink RX0 51 "EditGraph" "behind" "[I") (by decide +kernel)) (fun _ h9 => h9) rfl dX0_layList_57 ?_
              refine lv_iload hx hb dX0_layList_60 (lv_at hl 0 rfl) ?_
              refine eg_iald hx hb hK hP 12 0 rfl rfl (by omega) (by decide) dX0_layList_62 ?_
              refine eg_iast hx hb hK hP hD rfl hS 12 0 rfl rfl (by omega) (by decide) dX0_layList_63 (w' := wX q cI cJ (nI n) mk lt tg pa an la kn fb fh nb te wt (upd bh1 i (bh1 t))) rfl (fun H locs hP hS => ?_)
              refine lv_aload_n hx hb dX0_layList_64 rfl (lv_at hl 1 rfl) ?_
              refine va_get (D := D) (ci := 0) (v := .ref (q 12)) (C := RX0) (T := TX0) (N := 14) hx hb hts hin hown hK hP 0 rfl rfl 13 (by decide) (hts (.fieldLink RX0 51 "EditGraph" "behind" "[I") (by decide +kernel)) (fun _ h9 => h9) rfl dX0_layList_65 ?_
              refine lv_iload hx hb dX0_layList_68 (lv_at hl 0 rfl) ?_
              refine lv_iload hx hb dX0_layList_70 (lv_at hl 4 rfl) ?_
              refine eg_iast hx hb hK hP hD rfl hS 12 0 rfl rfl (by omega) (by decide) dX0_layList_72 (w' := wX q cI cJ (nI n) mk lt tg pa an la kn fb fh nb te wt (upd (upd bh1 i (bh1 t)) t (nI i))) rfl (fun H locs hP hS => ?_)
              refine lv_goto (tgt := 87) hx hb dX0_layList_73 (by decide) ?_
              refine lv_iinc (v := nI (i + 1)) (lv' := [(4, .int (nI (i + 1))), (5, .int (nI t)), (0, .ref (q 0)), (1, .long v), (3, .int x1)]) hx hb dX0_layList_87 hl (k := 4) rfl (eg_inc1 _) (by decide) rfl (fun ls hl => ?_)
              refine lv_goto (tgt := 5) hx hb dX0_layList_90 (by decide) ?_
              exact ih (i + 1) x1 (upd (upd bh1 i (bh1 t)) t (nI i)) H locs _ (by omega) (by omega) (Ch_t hn hc (by omega) c20 c29 eT htn hCh) hP hS (lv_sub hl [2, 3, 4, 0] rfl)
  refine lv_iconst (v := (-1)) hx hb dX0_layList_0 (by decide +kernel) ?_
  refine lv_istore_n (lv' := [(3, .int (-1)), (0, .ref (q 0)), (1, .long v)]) hx hb dX0_layList_1 rfl hl (by decide) rfl (fun ls hl => ?_)
  refine lv_iconst (v := nI 0) hx hb dX0_layList_2 (by decide +kernel) ?_
  refine lv_istore (lv' := [(4, .int (nI 0)), (3, .int (-1)), (0, .ref (q 0)), (1, .long v)]) hx hb dX0_layList_3 hl (by decide) rfl (fun ls hl => ?_)
  exact loop (n + 1) 0 (-1) bh H locs _ (by omega) (by omega) rfl hP hS (lv_sub hl [2, 3, 1, 0] rfl)
set_option maxHeartbeats 4000000 in
set_option maxRecDepth 100000 in
theorem c_X0_findTextByList (l : Launch) (D : va_G) (cI cJ : ClassId) (q : Nat → Nat) (n : Nat) (mk lt tg : Nat → Int32) (pa an la kn : Nat → Int64) (fb : Int32) (fh nb te wt bh : Nat → Int32) (v : Int64) (hn : n ≤ 60) (hdl : ∀ k, k < n → bi v k = true → lt k = -1 → ∃ t, t < n ∧ tg k = nI t) (hc : hang (vI lt v) tg n) : eg_MW D (tyL cI cJ) l yX0_findTextByList wsX0_findTextByList ({ frames := 3, cells := 0, slots := 0, locals := 69 }) 0 0 [.ref (q 0), .long v] (wX q cI cJ (nI n) mk lt tg pa an la kn fb fh nb te wt bh) (fun r w1 => ∃ (te' bh' : Nat → Int32), r = some (.int (nI ((lay (vI lt v) tg n).filter (bi (sdX lt tg v n))).length)) ∧ w1 = wX q cI cJ (nI n) mk lt tg pa an la kn fb fh nb te' wt bh' ∧ holds te' ((lay (vI lt v) tg n).filter (bi (sdX lt tg v n)))) := by
  have hln : (lay (vI lt v) tg n).length ≤ n := lay_len n (lay_nodup (by omega) hc)
  refine Met.ofW (cc := cX0_findTextByList) (maxL := 8) (ret := (some .int)) (by decide) rfl ?_
  intro p e s m args below meth c s₁ B hml hv
  obtain ⟨rfl, hP, hK, hD0⟩ := hv
  have hx := B.exec
  have hb := B.bytes
  have hr := B.returns
  have hts := atoms_spec (ws := wsX0_findTextByList) B.pre
  have hown : s.vm.findClass RX0 = some m.cls := findClass_of_methodNamed B.named
  have hlocks := B.notSynchronized
  have hD := eg_D_of hD0
  have hS : va_S (eg_A (wX q cI cJ (nI n) mk lt tg pa an la kn fb fh nb te wt bh)) s.heap s.heap [] := va_S.rf
  have hin : ∀ w ∈ u_ws RX0 TX0 14, w ∈ wsX0_findTextByList := by decide +kernel
  have hl := lv_entry ([.ref (q 0), .long v]) (n := 8) (Nat.le_of_ble_eq_true rfl)
  rw [lg_entry_eq]
  generalize (lg_sl ([.ref (q 0), .long v]) ++ List.replicate (8 - (lg_sl ([.ref (q 0), .long v])).length) Slot.unset).toArray = ls at hl ⊢
  have hl : lv_has ls 8 [(0, .ref (q 0)), (1, .long v)] := hl
  generalize h0H : s.heap = H at hP ⊢
  have hS : va_S (eg_A (wX q cI cJ (nI n) mk lt tg pa an la kn fb fh nb te wt bh)) s.heap H [] := by rw [← h0H]; exact hS
  generalize ([] : List Loc) = locs at hS ⊢
  have loop : ∀ (f i : Nat) (E R : List Nat) (x1 : Int32) (te1 bh1 : Nat → Int32) (H : Heap) (locs : List Loc) (ls : Array Slot), 60 < i + f → i ≤ 60 → E.length = i → E ++ R = (lay (vI lt v) tg n) → Ch bh1 x1 R → holds te1 (E.filter (bi (sdX lt tg v n))) → va_P D vwCl (wX q cI cJ (nI n) mk lt tg pa an la kn fb fh nb te1 wt bh1) H → va_S (eg_A (wX q cI cJ (nI n) mk lt tg pa an la kn fb fh nb te wt bh)) s.heap H locs → lv_has ls 8 [(0, .ref (q 0)), (1, .long v), (3, .long (sdX lt tg v n)), (5, .int (nI ((E.filter (bi (sdX lt tg v n))).length))), (6, .int x1), (7, .int (nI i))] → W p l e (headSpec wsX0_findTextByList ({ frames := 3, cells := 0, slots := 0, locals := 69 })).room s m ([.ref (q 0), .long v] : List Value).toArray below meth c H locs 0 0 (MQ below (eg_Wq D (wX q cI cJ (nI n) mk lt tg pa an la kn fb fh nb te wt bh) (fun r w1 => ∃ (te' bh' : Nat → Int32), r = some (.int (nI ((lay (vI lt v) tg n).filter (bi (sdX lt tg v n))).length)) ∧ w1 = wX q cI cJ (nI n) mk lt tg pa an la kn fb fh nb te' wt bh' ∧ holds te' ((lay (vI lt v) tg n).filter (bi (sdX lt tg v n))))) ([.ref (q 0), .long v] : List Value).toArray s 0 0 (eg_A (wX q cI cJ (nI n) mk lt tg pa an la kn fb fh nb te wt bh))) (F0 m 19 ls []) := by
    intro f
    induction f with
    | zero => intro i E R x1 te1 bh1  H locs ls h1 h2 h3 h4 h5 h6 hP hS hl; omega
    | succ f ih =>
      intro i E R x1 te1 bh1  H locs ls h1 h2 h3 h4 h5 h6 hP hS hl
      have hEi := h3
      have hER := h4
      have hCh := h5
      have hhold := h6
      have hfl := flen (z := (sdX lt tg v n)) E
      have hOl0 : E.length + R.length = (lay (vI lt v) tg n).length := by rw [← hER, List.length_append]
      have hRn : ∀ e, e ∈ R → e < n := fun e he => (lay_mem (by rw [← hER]; exact List.mem_append_right _ he)).1
      refine lv_iload hx hb dX0_findTextByList_19 (lv_at hl 5 rfl) ?_
      refine lv_bipush (v := nI 60) hx hb dX0_findTextByList_21 (by decide +kernel) ?_
      refine eg_icmp_ge (tgt := 61) hx hb dX0_findTextByList_23 (by decide) (by omega) (by omega) (fun c23 => ?_) (fun c23 => ?_)
      · refine lv_iload hx hb dX0_findTextByList_61 (lv_at hl 3 rfl) ?_
        have hEO : E = (lay (vI lt v) tg n) := by
          have hR0 : R = [] := by
            first
            | (have hc := c32; exact Ch_end (by omega) hCh hRn hc)
            | (have hc := c23; exact List.length_eq_zero_iff.mp (by omega))
          rw [← hER, hR0, List.append_nil]
        rw [hEO] at hhold
        exact W.iret hx hb hr (fun t9 ht9 _ => ⟨some (.int (nI (E.filter (bi (sdX lt tg v n))).length)), (wX q cI cJ (nI n) mk lt tg pa an la kn fb fh nb te1 wt bh1), rfl, ⟨te1, bh1, by rw [hEO], rfl, hhold⟩, rfl, by rw [ht9]; exact hP, hS.F ht9⟩) hS.2.2 dX0_findTextByList_63
      · refine lv_aload_n hx hb dX0_findTextByList_26 rfl (lv_at hl 0 rfl) ?_
        refine lv_iload hx hb dX0_findTextByList_27 (lv_at hl 4 rfl) ?_
        refine eg_callV (As := [.int x1]) (rest := []) hx hb hml hown hts hK hP (c_X0_isEvent l D cI cJ q n mk lt tg pa an la kn fb fh nb te1 wt bh1 x1 ) (cwV 1 hts gX0_findTextByList_X0_isEvent rfl rfl rfl (by decide +kernel) ⟨Nat.le_of_ble_eq_true rfl, Nat.le_of_ble_eq_true rfl⟩) (va_recv hK hP (ci := 0) (q0 := 0) rfl rfl) rfl hl.1 rfl (Nat.le_of_ble_eq_true rfl) dX0_findTextByList_29 ⟨Nat.zero_le _, Nat.zero_le _⟩ ?_
        refine eg_ifeq_b (tgt := 61) hx hb dX0_findTextByList_32 (by decide) (fun c32 => ?_) (fun c32 => ?_)
        · refine lv_iload hx hb dX0_findTextByList_61 (lv_at hl 3 rfl) ?_
          have hEO : E = (lay (vI lt v) tg n) := by
            have hR0 : R = [] := by
              first
              | (have hc := c32; exact Ch_end (by omega) hCh hRn hc)
              | (have hc := c23; exact List.length_eq_zero_iff.mp (by omega))
            rw [← hER, hR0, List.append_nil]
          rw [hEO] at hhold
          exact W.iret hx hb hr (fun t9 ht9 _ => ⟨some (.int (nI (E.filter (bi (sdX lt tg v n))).length)), (wX q cI cJ (nI n) mk lt tg pa an la kn fb fh nb te1 wt bh1), rfl, ⟨te1, bh1, by rw [hEO], rfl, hhold⟩, rfl, by rw [ht9]; exact hP, hS.F ht9⟩) hS.2.2 dX0_findTextByList_63
        · obtain ⟨e0, R2, rfl, rfl, hCh2⟩ := Ch_pop hCh c32
          have he0 : e0 < n := hRn e0 List.mem_cons_self
          have hfl := flen (z := (sdX lt tg v n)) E
          refine lv_aload_n hx hb dX0_findTextByList_35 rfl (lv_at hl 0 rfl) ?_
          refine lv_lload_n hx hb dX0_findTextByList_36 rfl (lv_at hl 2 rfl) ?_
          refine lv_iload hx hb dX0_findTextByList_37 (lv_at hl 4 rfl) ?_
          refine lv_iload hx hb dX0_findTextByList_39 (lv_at hl 3 rfl) ?_
          refine eg_callWV (As := [.long (sdX lt tg v n), .int (nI e0), .int (nI ((E.filter (bi (sdX lt tg v n))).length))]) (rest := []) hx hb hml hown hts hK hP hD rfl hS (c_X0_putText l D cI cJ q n mk lt tg pa an la kn fb fh nb te1 wt bh1 (sdX lt tg v n) e0 (E.filter (bi (sdX lt tg v n))).length (by omega) (by omega)) (cwV 3 hts gX0_findTextByList_X0_putText rfl rfl rfl (by decide +kernel) ⟨Nat.le_of_ble_eq_true rfl, Nat.le_of_ble_eq_true rfl⟩) (va_recv hK hP (ci := 0) (q0 := 0) rfl rfl) rfl hl.1 rfl (Nat.le_of_ble_eq_true rfl) dX0_findTextByList_41 ⟨Nat.zero_le _, Nat.zero_le _⟩ (fun v9 w9 H locs hR9 hw9 hP hS => ?_)
          obtain ⟨te2, rfl, rfl, hhold2⟩ := pt_holds hR9 hhold (by omega)
          refine lv_istore (lv' := [(5, .int (nI (((E ++ [e0]).filter (bi (sdX lt tg v n))).length))), (0, .ref (q 0)), (1, .long v), (3, .long (sdX lt tg v n)), (6, .int (nI e0)), (7, .int (nI i))]) hx hb dX0_findTextByList_44 hl (by decide) rfl (fun ls hl => ?_)
          refine lv_aload_n hx hb dX0_findTextByList_46 rfl (lv_at hl 1 rfl) ?_
          refine va_get (D := D) (ci := 0) (v := .ref (q 12)) (C := RX0) (T := TX0) (N := 14) hx hb hts hin hown hK hP 0 rfl rfl 13 (by decide) (hts (.fieldLink RX0 51 "EditGraph" "behind" "[I") (by decide +kernel)) (fun _ h9 => h9) rfl dX0_findTextByList_47 ?_
          refine lv_iload hx hb dX0_findTextByList_50 (lv_at hl 4 rfl) ?_
          refine eg_iald hx hb hK hP 12 0 rfl rfl (by omega) (by decide) dX0_findTextByList_52 ?_
          refine lv_istore (lv' := [(6, .int (bh1 e0)), (5, .int (nI (((E ++ [e0]).filter (bi (sdX lt tg v n))).length))), (0, .ref (q 0)), (1, .long v), (3, .long (sdX lt tg v n)), (7, .int (nI i))]) hx hb dX0_findTextByList_53 hl (by decide) rfl (fun ls hl => ?_)
          refine lv_iinc (v := nI (i + 1)) (lv' := [(7, .int (nI (i + 1))), (6, .int (bh1 e0)), (5, .int (nI (((E ++ [e0]).filter (bi (sdX lt tg v n))).length))), (0, .ref (q 0)), (1, .long v), (3, .long (sdX lt tg v n))]) hx hb dX0_findTextByList_55 hl (k := 5) rfl (eg_inc1 _) (by decide) rfl (fun ls hl => ?_)
          refine lv_goto (tgt := 19) hx hb dX0_findTextByList_58 (by decide) ?_
          exact ih (i + 1) (E ++ [e0]) R2 (bh1 e0) te2 bh1 H locs _ (by omega) (by omega) (by rw [List.length_append, hEi]; rfl) (by rw [← hER, List.append_assoc]; rfl) hCh2 hhold2 hP hS (lv_sub hl [3, 4, 5, 2, 1, 0] rfl)
  refine lv_aload_n hx hb dX0_findTextByList_0 rfl (lv_at hl 0 rfl) ?_
  refine lv_lload_n hx hb dX0_findTextByList_1 rfl (lv_at hl 1 rfl) ?_
  refine eg_callV (As := [.long v]) (rest := []) hx hb hml hown hts hK hP (c_X0_standingIn l D cI cJ q n mk lt tg pa an la kn fb fh nb te wt bh v (by omega) hdl) (cwV 1 hts gX0_findTextByList_X0_standingIn rfl rfl rfl (by decide +kernel) ⟨Nat.le_of_ble_eq_true rfl, Nat.le_of_ble_eq_true rfl⟩) (va_recv hK hP (ci := 0) (q0 := 0) rfl rfl) rfl hl.1 rfl (Nat.le_of_ble_eq_true rfl) dX0_findTextByList_2 ⟨Nat.zero_le _, Nat.zero_le _⟩ ?_
  refine lv_lstore_n (lv' := [(3, .long (sdX lt tg v n)), (0, .ref (q 0)), (1, .long v)]) hx hb dX0_findTextByList_5 rfl hl (by decide) rfl (fun ls hl => ?_)
  refine lv_iconst (v := nI 0) hx hb dX0_findTextByList_6 (by decide +kernel) ?_
  refine lv_istore (lv' := [(5, .int (nI 0)), (3, .long (sdX lt tg v n)), (0, .ref (q 0)), (1, .long v)]) hx hb dX0_findTextByList_7 hl (by decide) rfl (fun ls hl => ?_)
  refine lv_aload_n hx hb dX0_findTextByList_9 rfl (lv_at hl 2 rfl) ?_
  refine lv_lload_n hx hb dX0_findTextByList_10 rfl (lv_at hl 3 rfl) ?_
  refine eg_callWV (As := [.long v]) (rest := []) hx hb hml hown hts hK hP hD rfl hS (c_X0_layList l D cI cJ q n mk lt tg pa an la kn fb fh nb te wt bh v hn hc) (cwV 1 hts gX0_findTextByList_X0_layList rfl rfl rfl (by decide +kernel) ⟨Nat.le_of_ble_eq_true rfl, Nat.le_of_ble_eq_true rfl⟩) (va_recv hK hP (ci := 0) (q0 := 0) rfl rfl) rfl hl.1 rfl (Nat.le_of_ble_eq_true rfl) dX0_findTextByList_11 ⟨Nat.zero_le _, Nat.zero_le _⟩ (fun v9 w9 H locs hR9 hw9 hP hS => ?_)
  obtain ⟨bh1, x0, rfl, rfl, hCh0⟩ := hR9
  refine lv_istore (lv' := [(6, .int x0), (5, .int (nI 0)), (3, .long (sdX lt tg v n)), (0, .ref (q 0)), (1, .long v)]) hx hb dX0_findTextByList_14 hl (by decide) rfl (fun ls hl => ?_)
  refine lv_iconst (v := nI 0) hx hb dX0_findTextByList_16 (by decide +kernel) ?_
  refine lv_istore (lv' := [(7, .int (nI 0)), (6, .int x0), (5, .int (nI 0)), (3, .long (sdX lt tg v n)), (0, .ref (q 0)), (1, .long v)]) hx hb dX0_findTextByList_17 hl (by decide) rfl (fun ls hl => ?_)
  exact loop 61 0 [] (lay (vI lt v) tg n) x0 te bh1 H locs _ (by omega) (by omega) rfl rfl hCh0 (holds_nil te) hP hS (lv_sub hl [4, 5, 3, 2, 1, 0] rfl)
end
section
-- the words of the class's three throws
theorem hat_130 {args : Array Value} {s : State} (hg : ∀ w ∈ (vx_atS RX0 130 "java/lang/IndexOutOfBoundsException" ["java/lang/RuntimeException", "java/lang/Exception"]).filter goodWord, w.before args s = true) (hN : eg_N s) : ∀ w ∈ vx_atS RX0 130 "java/lang/IndexOutOfBoundsException" ["java/lang/RuntimeException", "java/lang/Exception"], w.before args s = true := vx_hat (B := [.declares ⟨"java/lang/RuntimeException", "<init>", "(Ljava/lang/String;)V"⟩, .declares ⟨"java/lang/Exception", "<init>", "(Ljava/lang/String;)V"⟩, .declares ⟨"java/lang/Throwable", "<init>", "(Ljava/lang/String;)V"⟩, .castable "java/lang/IndexOutOfBoundsException" "java/lang/IndexOutOfBoundsException"]) hg (by decide +kernel) (vx_c (va_Nw.use rfl hN.1) (vx_c (va_Nw.use rfl hN.2.1) (vx_c (va_Nw.use rfl hN.2.2.1) (vx_c (va_Nw.use rfl hN.2.2.2.1) vx_n))))
theorem hat_142 {args : Array Value} {s : State} (hg : ∀ w ∈ (vx_atS RX0 142 "java/lang/IllegalStateException" ["java/lang/RuntimeException", "java/lang/Exception"]).filter goodWord, w.before args s = true) (hN : eg_N s) : ∀ w ∈ vx_atS RX0 142 "java/lang/IllegalStateException" ["java/lang/RuntimeException", "java/lang/Exception"], w.before args s = true := vx_hat (B := [.declares ⟨"java/lang/RuntimeException", "<init>", "(Ljava/lang/String;)V"⟩, .declares ⟨"java/lang/Exception", "<init>", "(Ljava/lang/String;)V"⟩, .declares ⟨"java/lang/Throwable", "<init>", "(Ljava/lang/String;)V"⟩, .castable "java/lang/IllegalStateException" "java/lang/IllegalStateException"]) hg (by decide +kernel) (vx_c (va_Nw.use rfl hN.1) (vx_c (va_Nw.use rfl hN.2.1) (vx_c (va_Nw.use rfl hN.2.2.1) (vx_c (va_Nw.use rfl hN.2.2.2.2.2.1) vx_n))))
theorem hat_70 {args : Array Value} {s : State} (hg : ∀ w ∈ (vx_atS RX0 70 "java/lang/IllegalArgumentException" ["java/lang/RuntimeException", "java/lang/Exception"]).filter goodWord, w.before args s = true) (hN : eg_N s) : ∀ w ∈ vx_atS RX0 70 "java/lang/IllegalArgumentException" ["java/lang/RuntimeException", "java/lang/Exception"], w.before args s = true := vx_hat (B := [.declares ⟨"java/lang/RuntimeException", "<init>", "(Ljava/lang/String;)V"⟩, .declares ⟨"java/lang/Exception", "<init>", "(Ljava/lang/String;)V"⟩, .declares ⟨"java/lang/Throwable", "<init>", "(Ljava/lang/String;)V"⟩, .castable "java/lang/IllegalArgumentException" "java/lang/IllegalArgumentException"]) hg (by decide +kernel) (vx_c (va_Nw.use rfl hN.1) (vx_c (va_Nw.use rfl hN.2.1) (vx_c (va_Nw.use rfl hN.2.2.1) (vx_c (va_Nw.use rfl hN.2.2.2.2.1) vx_n))))
theorem ot_130 : ∀ w ∈ Cond.classLink RX0 126 "java/lang/IndexOutOfBoundsException" :: Cond.initialized "java/lang/IndexOutOfBoundsException" :: vx_atS RX0 130 "java/lang/IndexOutOfBoundsException" ["java/lang/RuntimeException", "java/lang/Exception"], vx_ot w = true := by decide +kernel
theorem ot_142 : ∀ w ∈ Cond.classLink RX0 138 "java/lang/IllegalStateException" :: Cond.initialized "java/lang/IllegalStateException" :: vx_atS RX0 142 "java/lang/IllegalStateException" ["java/lang/RuntimeException", "java/lang/Exception"], vx_ot w = true := by decide +kernel
theorem ot_70 : ∀ w ∈ Cond.classLink RX0 66 "java/lang/IllegalArgumentException" :: Cond.initialized "java/lang/IllegalArgumentException" :: vx_atS RX0 70 "java/lang/IllegalArgumentException" ["java/lang/RuntimeException", "java/lang/Exception"], vx_ot w = true := by decide +kernel
/-- no such author, event, place -/
def bad (n : Nat) (x : Int32) : Prop := x < 0 ∨ nI n ≤ x
theorem bad_or {n : Nat} (x : Int32) (hn : n < 2 ^ 31) : bad n x ∨ ∃ i, i < n ∧ x = nI i := by
  by_cases h : x < 0
  · exact Or.inl (Or.inl h)
  · by_cases h2 : nI n ≤ x
    · exact Or.inl (Or.inr h2)
    · exact Or.inr (ev_of hn (ev_t h h2))
theorem bad_ev {n : Nat} {x : Int32} (h : bad n x) : ev n x = false := by
  rcases h with h | h
  · exact ev_f1 h
  · exact ev_f2 h
theorem bad_not {n : Nat} {x : Int32} (h : bad n x) (h1 : ¬ x < 0) : ¬ x < nI n := by
  rcases h with h | h
  · exact absurd h h1
  · rw [Int32.lt_iff_toInt_lt]; rw [Int32.le_iff_toInt_le] at h; omega
end
section
-- the checks, passing and throwing (by gen.py, specC.py)
set_option maxHeartbeats 4000000 in
set_option maxRecDepth 100000 in
theorem c_X0_checkAuthor (l : Launch) (D : va_G) (cI cJ : ClassId) (q : Nat → Nat) (n : Nat) (mk lt tg : Nat → Int32) (pa an la kn : Nat → Int64) (fb : Int32) (fh nb te wt bh : Nat → Int32) (a : Nat) (ha : a < 4) : eg_MR D (tyL cI cJ) l yX0_checkAuthor wsX0_checkAuthor ({ frames := 0, cells := 0, slots := 0, locals := 0 }) [.ref (q 0), .int (nI a)] (wX q cI cJ (nI n) mk lt tg pa an la kn fb fh nb te wt bh) (none) := by
  refine Met.ofW (cc := cX0_checkAuthor) (maxL := 2) (ret := none) (by decide) rfl ?_
  intro p e s m args below meth c s₁ B hml hv
  obtain ⟨rfl, hP, hK⟩ := hv
  have hx := B.exec
  have hb := B.bytes
  have hr := B.returns
  have hts := atoms_spec (ws := wsX0_checkAuthor) B.pre
  have hown : s.vm.findClass RX0 = some m.cls := findClass_of_methodNamed B.named
  have hlocks := B.notSynchronized
  have hl := lv_entry ([.ref (q 0), .int (nI a)]) (n := 2) (Nat.le_of_ble_eq_true rfl)
  rw [lg_entry_eq]
  generalize (lg_sl ([.ref (q 0), .int (nI a)]) ++ List.replicate (2 - (lg_sl ([.ref (q 0), .int (nI a)])).length) Slot.unset).toArray = ls at hl ⊢
  have hl : lv_has ls 2 [(0, .ref (q 0)), (1, .int (nI a))] := hl
  refine lv_iload_n hx hb dX0_checkAuthor_0 rfl (lv_at hl 1 rfl) ?_
  refine eg_if_lt (tgt := 9) hx hb dX0_checkAuthor_1 (by decide) (by omega) ?_
  refine lv_iload_n hx hb dX0_checkAuthor_4 rfl (lv_at hl 1 rfl) ?_
  refine lv_iconst (v := nI 4) hx hb dX0_checkAuthor_5 (by decide +kernel) ?_
  refine eg_icmp_lt (tgt := 19) hx hb dX0_checkAuthor_6 (by decide) (by omega) (by omega) (fun c6 => ?_) (fun c6 => ?_)
  · exact W.vret hx hb hr (fun t9 ht9 _ => ⟨rfl, ht9⟩) (fun q h => nomatch h) dX0_checkAuthor_19
  · omega
set_option maxHeartbeats 4000000 in
set_option maxRecDepth 100000 in
theorem c_X0_checkEvent (l : Launch) (D : va_G) (cI cJ : ClassId) (q : Nat → Nat) (n : Nat) (mk lt tg : Nat → Int32) (pa an la kn : Nat → Int64) (fb : Int32) (fh nb te wt bh : Nat → Int32) (e0 : Nat) (hn : n ≤ 60) (he : e0 < n) : eg_MR D (tyL cI cJ) l yX0_checkEvent wsX0_checkEvent ({ frames := 1, cells := 0, slots := 0, locals := 21 }) [.ref (q 0), .int (nI e0)] (wX q cI cJ (nI n) mk lt tg pa an la kn fb fh nb te wt bh) (none) := by
  refine Met.ofW (cc := cX0_checkEvent) (maxL := 2) (ret := none) (by decide) rfl ?_
  intro p e s m args below meth c s₁ B hml hv
  obtain ⟨rfl, hP, hK⟩ := hv
  have hx := B.exec
  have hb := B.bytes
  have hr := B.returns
  have hts := atoms_spec (ws := wsX0_checkEvent) B.pre
  have hown : s.vm.findClass RX0 = some m.cls := findClass_of_methodNamed B.named
  have hlocks := B.notSynchronized
  have hl := lv_entry ([.ref (q 0), .int (nI e0)]) (n := 2) (Nat.le_of_ble_eq_true rfl)
  rw [lg_entry_eq]
  generalize (lg_sl ([.ref (q 0), .int (nI e0)]) ++ List.replicate (2 - (lg_sl ([.ref (q 0), .int (nI e0)])).length) Slot.unset).toArray = ls at hl ⊢
  have hl : lv_has ls 2 [(0, .ref (q 0)), (1, .int (nI e0))] := hl
  refine lv_aload_n hx hb dX0_checkEvent_0 rfl (lv_at hl 0 rfl) ?_
  refine lv_iload_n hx hb dX0_checkEvent_1 rfl (lv_at hl 1 rfl) ?_
  refine eg_callV (As := [.int (nI e0)]) (rest := []) hx hb hml hown hts hK hP (c_X0_isEvent l D cI cJ q n mk lt tg pa an la kn fb fh nb te wt bh (nI e0) ) (cwV 1 hts gX0_checkEvent_X0_isEvent rfl rfl rfl (by decide +kernel) ⟨Nat.le_of_ble_eq_true rfl, Nat.le_of_ble_eq_true rfl⟩) (va_recv hK hP (ci := 0) (q0 := 0) rfl rfl) rfl hl.1 rfl (Nat.le_of_ble_eq_true rfl) dX0_checkEvent_2 ⟨Nat.zero_le _, Nat.zero_le _⟩ ?_
  refine eg_ifne_b (tgt := 18) hx hb dX0_checkEvent_5 (by decide) (fun c5 => ?_) (fun c5 => ?_)
  · exact W.vret hx hb hr (fun t9 ht9 _ => ⟨rfl, ht9⟩) (fun q h => nomatch h) dX0_checkEvent_18
  · rw [ev_nI (by omega) he] at c5; cases c5
set_option maxHeartbeats 4000000 in
set_option maxRecDepth 100000 in
theorem c_X0_checkPlace (l : Launch) (D : va_G) (cI cJ : ClassId) (q : Nat → Nat) (n : Nat) (mk lt tg : Nat → Int32) (pa an la kn : Nat → Int64) (fb : Int32) (fh nb te wt bh : Nat → Int32) (pp : Nat) (L : Nat) (hp : pp < L) (hL : L < 2 ^ 31) : eg_MR D (tyL cI cJ) l yX0_checkPlace wsX0_checkPlace ({ frames := 0, cells := 0, slots := 0, locals := 0 }) [.ref (q 0), .int (nI pp), .int (nI L)] (wX q cI cJ (nI n) mk lt tg pa an la kn fb fh nb te wt bh) (none) := by
  refine Met.ofW (cc := cX0_checkPlace) (maxL := 3) (ret := none) (by decide) rfl ?_
  intro p e s m args below meth c s₁ B hml hv
  obtain ⟨rfl, hP, hK⟩ := hv
  have hx := B.exec
  have hb := B.bytes
  have hr := B.returns
  have hts := atoms_spec (ws := wsX0_checkPlace) B.pre
  have hown : s.vm.findClass RX0 = some m.cls := findClass_of_methodNamed B.named
  have hlocks := B.notSynchronized
  have hl := lv_entry ([.ref (q 0), .int (nI pp), .int (nI L)]) (n := 3) (Nat.le_of_ble_eq_true rfl)
  rw [lg_entry_eq]
  generalize (lg_sl ([.ref (q 0), .int (nI pp), .int (nI L)]) ++ List.replicate (3 - (lg_sl ([.ref (q 0), .int (nI pp), .int (nI L)])).length) Slot.unset).toArray = ls at hl ⊢
  have hl : lv_has ls 3 [(0, .ref (q 0)), (1, .int (nI pp)), (2, .int (nI L))] := hl
  refine lv_iload_n hx hb dX0_checkPlace_0 rfl (lv_at hl 1 rfl) ?_
  refine eg_if_lt (tgt := 9) hx hb dX0_checkPlace_1 (by decide) (by omega) ?_
  refine lv_iload_n hx hb dX0_checkPlace_4 rfl (lv_at hl 1 rfl) ?_
  refine lv_iload_n hx hb dX0_checkPlace_5 rfl (lv_at hl 2 rfl) ?_
  refine eg_icmp_lt (tgt := 19) hx hb dX0_checkPlace_6 (by decide) (by omega) (by omega) (fun c6 => ?_) (fun c6 => ?_)
  · exact W.vret hx hb hr (fun t9 ht9 _ => ⟨rfl, ht9⟩) (fun q h => nomatch h) dX0_checkPlace_19
  · omega
set_option maxHeartbeats 4000000 in
set_option maxRecDepth 100000 in
theorem c_X0_checkRoom (l : Launch) (D : va_G) (cI cJ : ClassId) (q : Nat → Nat) (n : Nat) (mk lt tg : Nat → Int32) (pa an la kn : Nat → Int64) (fb : Int32) (fh nb te wt bh : Nat → Int32) (hn : n < 60) : eg_MR D (tyL cI cJ) l yX0_checkRoom wsX0_checkRoom ({ frames := 0, cells := 0, slots := 0, locals := 0 }) [.ref (q 0)] (wX q cI cJ (nI n) mk lt tg pa an la kn fb fh nb te wt bh) (none) := by
  refine Met.ofW (cc := cX0_checkRoom) (maxL := 1) (ret := none) (by decide) rfl ?_
  intro p e s m args below meth c s₁ B hml hv
  obtain ⟨rfl, hP, hK⟩ := hv
  have hx := B.exec
  have hb := B.bytes
  have hr := B.returns
  have hts := atoms_spec (ws := wsX0_checkRoom) B.pre
  have hown : s.vm.findClass RX0 = some m.cls := findClass_of_methodNamed B.named
  have hlocks := B.notSynchronized
  have hin : ∀ w ∈ u_ws RX0 TX0 14, w ∈ wsX0_checkRoom := by decide +kernel
  have hl := lv_entry ([.ref (q 0)]) (n := 1) (Nat.le_of_ble_eq_true rfl)
  rw [lg_entry_eq]
  generalize (lg_sl ([.ref (q 0)]) ++ List.replicate (1 - (lg_sl ([.ref (q 0)])).length) Slot.unset).toArray = ls at hl ⊢
  have hl : lv_has ls 1 [(0, .ref (q 0))] := hl
  refine lv_aload_n hx hb dX0_checkRoom_0 rfl (lv_at hl 0 rfl) ?_
  refine va_get (D := D) (ci := 0) (v := .int (nI n)) (C := RX0) (T := TX0) (N := 14) hx hb hts hin hown hK hP 0 rfl rfl 0 (by decide) (hts (.fieldLink RX0 7 "EditGraph" "eventCount" "I") (by decide +kernel)) (fun _ h9 => h9) rfl dX0_checkRoom_1 ?_
  refine lv_bipush (v := nI 60) hx hb dX0_checkRoom_4 (by decide +kernel) ?_
  refine eg_icmp_lt (tgt := 19) hx hb dX0_checkRoom_6 (by decide) (by omega) (by omega) (fun c6 => ?_) (fun c6 => ?_)
  · exact W.vret hx hb hr (fun t9 ht9 _ => ⟨rfl, ht9⟩) (fun q h => nomatch h) dX0_checkRoom_19
  · omega
set_option maxHeartbeats 4000000 in
set_option maxRecDepth 100000 in
theorem c_X0_checkAuthor_no (l : Launch) (D : va_G) (cI cJ : ClassId) (q : Nat → Nat) (n : Nat) (mk lt tg : Nat → Int32) (pa an la kn : Nat → Int64) (fb : Int32) (fh nb te wt bh : Nat → Int32) (x : Int32) (hbad : bad 4 x) (hfl : l.stackTraces = false) : eg_MX D (tyL cI cJ) l yX0_checkAuthor wsX0_checkAuthor ({ frames := 6, cells := 1, slots := 6, locals := 82 }) [.ref (q 0), .int x] (wX q cI cJ (nI n) mk lt tg pa an la kn fb fh nb te wt bh) "java/lang/IndexOutOfBoundsException" (fun w1 => w1 = wX q cI cJ (nI n) mk lt tg pa an la kn fb fh nb te wt bh) := by
  refine vx_ofW (cc := cX0_checkAuthor) (maxL := 2) (ret := none) (by decide) rfl ?_
  intro p e s m args below meth c s₁ B hml htb hv
  obtain ⟨rfl, hP, hK, hD0, hT⟩ := hv
  have hx := B.exec
  have hb := B.bytes
  have hr := B.returns
  have hts := atoms_spec (ws := wsX0_checkAuthor) B.pre
  have hown : s.vm.findClass RX0 = some m.cls := findClass_of_methodNamed B.named
  have hlocks := B.notSynchronized
  have hD := eg_D_of hD0
  have hS : va_S (eg_A (wX q cI cJ (nI n) mk lt tg pa an la kn fb fh nb te wt bh)) s.heap s.heap [] := va_S.rf
  have hl := lv_entry ([.ref (q 0), .int x]) (n := 2) (Nat.le_of_ble_eq_true rfl)
  rw [lg_entry_eq]
  generalize (lg_sl ([.ref (q 0), .int x]) ++ List.replicate (2 - (lg_sl ([.ref (q 0), .int x])).length) Slot.unset).toArray = ls at hl ⊢
  have hl : lv_has ls 2 [(0, .ref (q 0)), (1, .int x)] := hl
  generalize h0H : s.heap = H at hP ⊢
  have hS : va_S (eg_A (wX q cI cJ (nI n) mk lt tg pa an la kn fb fh nb te wt bh)) s.heap H [] := by rw [← h0H]; exact hS
  generalize ([] : List Loc) = locs at hS ⊢
  refine lv_iload_n hx hb dX0_checkAuthor_0 rfl (lv_at hl 1 rfl) ?_
  refine lv_if_lt (tgt := 9) hx hb dX0_checkAuthor_1 (by decide) (fun c1 => ?_) (fun c1 => ?_)
  · exact eg_throw hx hb hfl hown (by decide +kernel) (hts (.classLink RX0 126 "java/lang/IndexOutOfBoundsException") (by decide +kernel)) (hts (.initialized "java/lang/IndexOutOfBoundsException") (by decide +kernel)) hT.2.1 (hat_130 (fun w h9 => hts w (List.mem_cons_of_mem _ (List.mem_append_right _ h9))) hT.1.2) ot_130 hP rfl hS hT (hl.1.trans hml.symm) dX0_checkAuthor_9 dX0_checkAuthor_12 dX0_checkAuthor_13 dX0_checkAuthor_15 dX0_checkAuthor_18 htb (Nat.le_of_ble_eq_true rfl) (Nat.le_of_ble_eq_true rfl) (Nat.le_of_ble_eq_true rfl) (Nat.le_of_ble_eq_true rfl) hlocks rfl
  · refine lv_iload_n hx hb dX0_checkAuthor_4 rfl (lv_at hl 1 rfl) ?_
    refine lv_iconst (v := nI 4) hx hb dX0_checkAuthor_5 (by decide +kernel) ?_
    refine lv_icmp_lt (tgt := 19) hx hb dX0_checkAuthor_6 (by decide) (fun c6 => ?_) (fun c6 => ?_)
    · exact absurd c6 (bad_not hbad c1)
    · exact eg_throw hx hb hfl hown (by decide +kernel) (hts (.classLink RX0 126 "java/lang/IndexOutOfBoundsException") (by decide +kernel)) (hts (.initialized "java/lang/IndexOutOfBoundsException") (by decide +kernel)) hT.2.1 (hat_130 (fun w h9 => hts w (List.mem_cons_of_mem _ (List.mem_append_right _ h9))) hT.1.2) ot_130 hP rfl hS hT (hl.1.trans hml.symm) dX0_checkAuthor_9 dX0_checkAuthor_12 dX0_checkAuthor_13 dX0_checkAuthor_15 dX0_checkAuthor_18 htb (Nat.le_of_ble_eq_true rfl) (Nat.le_of_ble_eq_true rfl) (Nat.le_of_ble_eq_true rfl) (Nat.le_of_ble_eq_true rfl) hlocks rfl
set_option maxHeartbeats 4000000 in
set_option maxRecDepth 100000 in
theorem c_X0_checkEvent_no (l : Launch) (D : va_G) (cI cJ : ClassId) (q : Nat → Nat) (n : Nat) (mk lt tg : Nat → Int32) (pa an la kn : Nat → Int64) (fb : Int32) (fh nb te wt bh : Nat → Int32) (x : Int32) (hbad : bad n x) (hfl : l.stackTraces = false) : eg_MX D (tyL cI cJ) l yX0_checkEvent wsX0_checkEvent ({ frames := 6, cells := 1, slots := 6, locals := 82 }) [.ref (q 0), .int x] (wX q cI cJ (nI n) mk lt tg pa an la kn fb fh nb te wt bh) "java/lang/IndexOutOfBoundsException" (fun w1 => w1 = wX q cI cJ (nI n) mk lt tg pa an la kn fb fh nb te wt bh) := by
  refine vx_ofW (cc := cX0_checkEvent) (maxL := 2) (ret := none) (by decide) rfl ?_
  intro p e s m args below meth c s₁ B hml htb hv
  obtain ⟨rfl, hP, hK, hD0, hT⟩ := hv
  have hx := B.exec
  have hb := B.bytes
  have hr := B.returns
  have hts := atoms_spec (ws := wsX0_checkEvent) B.pre
  have hown : s.vm.findClass RX0 = some m.cls := findClass_of_methodNamed B.named
  have hlocks := B.notSynchronized
  have hD := eg_D_of hD0
  have hS : va_S (eg_A (wX q cI cJ (nI n) mk lt tg pa an la kn fb fh nb te wt bh)) s.heap s.heap [] := va_S.rf
  have hl := lv_entry ([.ref (q 0), .int x]) (n := 2) (Nat.le_of_ble_eq_true rfl)
  rw [lg_entry_eq]
  generalize (lg_sl ([.ref (q 0), .int x]) ++ List.replicate (2 - (lg_sl ([.ref (q 0), .int x])).length) Slot.unset).toArray = ls at hl ⊢
  have hl : lv_has ls 2 [(0, .ref (q 0)), (1, .int x)] := hl
  generalize h0H : s.heap = H at hP ⊢
  have hS : va_S (eg_A (wX q cI cJ (nI n) mk lt tg pa an la kn fb fh nb te wt bh)) s.heap H [] := by rw [← h0H]; exact hS
  generalize ([] : List Loc) = locs at hS ⊢
  refine lv_aload_n hx hb dX0_checkEvent_0 rfl (lv_at hl 0 rfl) ?_
  refine lv_iload_n hx hb dX0_checkEvent_1 rfl (lv_at hl 1 rfl) ?_
  refine eg_callV (As := [.int x]) (rest := []) hx hb hml hown hts hK hP (c_X0_isEvent l D cI cJ q n mk lt tg pa an la kn fb fh nb te wt bh x ) (cwV 1 hts gX0_checkEvent_X0_isEvent rfl rfl rfl (by decide +kernel) ⟨Nat.le_of_ble_eq_true rfl, Nat.le_of_ble_eq_true rfl⟩) (va_recv hK hP (ci := 0) (q0 := 0) rfl rfl) rfl hl.1 rfl (Nat.le_of_ble_eq_true rfl) dX0_checkEvent_2 ⟨Nat.zero_le _, Nat.zero_le _⟩ ?_
  refine eg_ifne_b (tgt := 18) hx hb dX0_checkEvent_5 (by decide) (fun c5 => ?_) (fun c5 => ?_)
  · rw [bad_ev hbad] at c5; cases c5
  · exact eg_throw hx hb hfl hown (by decide +kernel) (hts (.classLink RX0 126 "java/lang/IndexOutOfBoundsException") (by decide +kernel)) (hts (.initialized "java/lang/IndexOutOfBoundsException") (by decide +kernel)) hT.2.2.1 (hat_130 (fun w h9 => hts w (List.mem_cons_of_mem _ (List.mem_append_right _ h9))) hT.1.2) ot_130 hP rfl hS hT (hl.1.trans hml.symm) dX0_checkEvent_8 dX0_checkEvent_11 dX0_checkEvent_12 dX0_checkEvent_14 dX0_checkEvent_17 htb (Nat.le_of_ble_eq_true rfl) (Nat.le_of_ble_eq_true rfl) (Nat.le_of_ble_eq_true rfl) (Nat.le_of_ble_eq_true rfl) hlocks rfl
set_option maxHeartbeats 4000000 in
set_option maxRecDepth 100000 in
theorem c_X0_checkPlace_no (l : Launch) (D : va_G) (cI cJ : ClassId) (q : Nat → Nat) (n : Nat) (mk lt tg : Nat → Int32) (pa an la kn : Nat → Int64) (fb : Int32) (fh nb te wt bh : Nat → Int32) (x : Int32) (L : Nat) (hbad : bad L x) (hfl : l.stackTraces = false) : eg_MX D (tyL cI cJ) l yX0_checkPlace wsX0_checkPlace ({ frames := 6, cells := 1, slots := 6, locals := 82 }) [.ref (q 0), .int x, .int (nI L)] (wX q cI cJ (nI n) mk lt tg pa an la kn fb fh nb te wt bh) "java/lang/IndexOutOfBoundsException" (fun w1 => w1 = wX q cI cJ (nI n) mk lt tg pa an la kn fb fh nb te wt bh) := by
  refine vx_ofW (cc := cX0_checkPlace) (maxL := 3) (ret := none) (by decide) rfl ?_
  intro p e s m args below meth c s₁ B hml htb hv
  obtain ⟨rfl, hP, hK, hD0, hT⟩ := hv
  have hx := B.exec
  have hb := B.bytes
  have hr := B.returns
  have hts := atoms_spec (ws := wsX0_checkPlace) B.pre
  have hown : s.vm.findClass RX0 = some m.cls := findClass_of_methodNamed B.named
  have hlocks := B.notSynchronized
  have hD := eg_D_of hD0
  have hS : va_S (eg_A (wX q cI cJ (nI n) mk lt tg pa an la kn fb fh nb te wt bh)) s.heap s.heap [] := va_S.rf
  have hl := lv_entry ([.ref (q 0), .int x, .int (nI L)]) (n := 3) (Nat.le_of_ble_eq_true rfl)
  rw [lg_entry_eq]
  generalize (lg_sl ([.ref (q 0), .int x, .int (nI L)]) ++ List.replicate (3 - (lg_sl ([.ref (q 0), .int x, .int (nI L)])).length) Slot.unset).toArray = ls at hl ⊢
  have hl : lv_has ls 3 [(0, .ref (q 0)), (1, .int x), (2, .int (nI L))] := hl
  generalize h0H : s.heap = H at hP ⊢
  have hS : va_S (eg_A (wX q cI cJ (nI n) mk lt tg pa an la kn fb fh nb te wt bh)) s.heap H [] := by rw [← h0H]; exact hS
  generalize ([] : List Loc) = locs at hS ⊢
  refine lv_iload_n hx hb dX0_checkPlace_0 rfl (lv_at hl 1 rfl) ?_
  refine lv_if_lt (tgt := 9) hx hb dX0_checkPlace_1 (by decide) (fun c1 => ?_) (fun c1 => ?_)
  · exact eg_throw hx hb hfl hown (by decide +kernel) (hts (.classLink RX0 126 "java/lang/IndexOutOfBoundsException") (by decide +kernel)) (hts (.initialized "java/lang/IndexOutOfBoundsException") (by decide +kernel)) hT.2.2.2.1 (hat_130 (fun w h9 => hts w (List.mem_cons_of_mem _ (List.mem_append_right _ h9))) hT.1.2) ot_130 hP rfl hS hT (hl.1.trans hml.symm) dX0_checkPlace_9 dX0_checkPlace_12 dX0_checkPlace_13 dX0_checkPlace_15 dX0_checkPlace_18 htb (Nat.le_of_ble_eq_true rfl) (Nat.le_of_ble_eq_true rfl) (Nat.le_of_ble_eq_true rfl) (Nat.le_of_ble_eq_true rfl) hlocks rfl
  · refine lv_iload_n hx hb dX0_checkPlace_4 rfl (lv_at hl 1 rfl) ?_
    refine lv_iload_n hx hb dX0_checkPlace_5 rfl (lv_at hl 2 rfl) ?_
    refine lv_icmp_lt (tgt := 19) hx hb dX0_checkPlace_6 (by decide) (fun c6 => ?_) (fun c6 => ?_)
    · exact absurd c6 (bad_not hbad c1)
    · exact eg_throw hx hb hfl hown (by decide +kernel) (hts (.classLink RX0 126 "java/lang/IndexOutOfBoundsException") (by decide +kernel)) (hts (.initialized "java/lang/IndexOutOfBoundsException") (by decide +kernel)) hT.2.2.2.1 (hat_130 (fun w h9 => hts w (List.mem_cons_of_mem _ (List.mem_append_right _ h9))) hT.1.2) ot_130 hP rfl hS hT (hl.1.trans hml.symm) dX0_checkPlace_9 dX0_checkPlace_12 dX0_checkPlace_13 dX0_checkPlace_15 dX0_checkPlace_18 htb (Nat.le_of_ble_eq_true rfl) (Nat.le_of_ble_eq_true rfl) (Nat.le_of_ble_eq_true rfl) (Nat.le_of_ble_eq_true rfl) hlocks rfl
set_option maxHeartbeats 4000000 in
set_option maxRecDepth 100000 in
theorem c_X0_checkRoom_no (l : Launch) (D : va_G) (cI cJ : ClassId) (q : Nat → Nat) (n : Nat) (mk lt tg : Nat → Int32) (pa an la kn : Nat → Int64) (fb : Int32) (fh nb te wt bh : Nat → Int32) (hn : 60 ≤ n) (hn2 : n ≤ 60) (hfl : l.stackTraces = false) : eg_MX D (tyL cI cJ) l yX0_checkRoom wsX0_checkRoom ({ frames := 6, cells := 1, slots := 6, locals := 82 }) [.ref (q 0)] (wX q cI cJ (nI n) mk lt tg pa an la kn fb fh nb te wt bh) "java/lang/IllegalStateException" (fun w1 => w1 = wX q cI cJ (nI n) mk lt tg pa an la kn fb fh nb te wt bh) := by
  refine vx_ofW (cc := cX0_checkRoom) (maxL := 1) (ret := none) (by decide) rfl ?_
  intro p e s m args below meth c s₁ B hml htb hv
  obtain ⟨rfl, hP, hK, hD0, hT⟩ := hv
  have hx := B.exec
  have hb := B.bytes
  have hr := B.returns
  have hts := atoms_spec (ws := wsX0_checkRoom) B.pre
  have hown : s.vm.findClass RX0 = some m.cls := findClass_of_methodNamed B.named
  have hlocks := B.notSynchronized
  have hD := eg_D_of hD0
  have hS : va_S (eg_A (wX q cI cJ (nI n) mk lt tg pa an la kn fb fh nb te wt bh)) s.heap s.heap [] := va_S.rf
  have hin : ∀ w ∈ u_ws RX0 TX0 14, w ∈ wsX0_checkRoom := by decide +kernel
  have hl := lv_entry ([.ref (q 0)]) (n := 1) (Nat.le_of_ble_eq_true rfl)
  rw [lg_entry_eq]
  generalize (lg_sl ([.ref (q 0)]) ++ List.replicate (1 - (lg_sl ([.ref (q 0)])).length) Slot.unset).toArray = ls at hl ⊢
  have hl : lv_has ls 1 [(0, .ref (q 0))] := hl
  generalize h0H : s.heap = H at hP ⊢
  have hS : va_S (eg_A (wX q cI cJ (nI n) mk lt tg pa an la kn fb fh nb te wt bh)) s.heap H [] := by rw [← h0H]; exact hS
  generalize ([] : List Loc) = locs at hS ⊢
  refine lv_aload_n hx hb dX0_checkRoom_0 rfl (lv_at hl 0 rfl) ?_
  refine va_get (D := D) (ci := 0) (v := .int (nI n)) (C := RX0) (T := TX0) (N := 14) hx hb hts hin hown hK hP 0 rfl rfl 0 (by decide) (hts (.fieldLink RX0 7 "EditGraph" "eventCount" "I") (by decide +kernel)) (fun _ h9 => h9) rfl dX0_checkRoom_1 ?_
  refine lv_bipush (v := nI 60) hx hb dX0_checkRoom_4 (by decide +kernel) ?_
  refine eg_icmp_lt (tgt := 19) hx hb dX0_checkRoom_6 (by decide) (by omega) (by omega) (fun c6 => ?_) (fun c6 => ?_)
  · omega
  · exact eg_throw hx hb hfl hown (by decide +kernel) (hts (.classLink RX0 138 "java/lang/IllegalStateException") (by decide +kernel)) (hts (.initialized "java/lang/IllegalStateException") (by decide +kernel)) hT.2.2.2.2.1 (hat_142 (fun w h9 => hts w (List.mem_cons_of_mem _ (List.mem_append_right _ h9))) hT.1.2) ot_142 hP rfl hS hT (hl.1.trans hml.symm) dX0_checkRoom_9 dX0_checkRoom_12 dX0_checkRoom_13 dX0_checkRoom_15 dX0_checkRoom_18 htb (Nat.le_of_ble_eq_true rfl) (Nat.le_of_ble_eq_true rfl) (Nat.le_of_ble_eq_true rfl) (Nat.le_of_ble_eq_true rfl) hlocks rfl
end
section
-- lemmas for the class's public calls
theorem getq {L : List Nat} {k : Nat} (h : k < L.length) : ∃ x, L[k]? = some x := ⟨L[k], List.getElem?_eq_getElem h⟩
theorem cnX_le (an la : Nat → Int64) (v : Int64) : ∀ k, cnX an la v k ≤ 64 * k
  | 0 => Nat.le_refl 0
  | k + 1 => by
    have h1 := cnX_le an la v k
    have h2 := ct_le (bi (v &&& (rel an la k ^^^ (-1)))) 64
    rw [cnX]
    split
    · show cnX an la v k + pc64 _ ≤ _
      unfold pc64
      omega
    · omega
theorem half {m : Nat} (h : m < 2 ^ 31) : nI m >>> (nI 1 &&& 31) = nI (m / 2) := by
  have := pk_shrN h (nI 1 &&& 31) 1 (by decide +kernel)
  rw [this]
/-- behind an insert the tree still gives the order of all letters -/
theorem hang_Tr {n : Nat} {lt tg : Nat → Int32} {an kn : Nat → Int64} {fb fb' : Int32} {fh nb fh' nb' : Nat → Int32} {h c : Int32} (hI : Inv n lt tg an kn) (hn : n < 60) (htr : ∃ f, Tr n fh nb f fb (lay (ins lt) tg n)) (hc : ¬ c = -1)
    (hh : h = -1 ∨ ∃ t, t < n ∧ h = nI t) (h9 : (∃ t : Nat, t < n + 1 ∧ h = nI t ∧ fb' = fb ∧ fh' = upd (upd fh n (-1)) t (nI n) ∧ nb' = upd nb n (upd fh n (-1) t)) ∨ (ev (n + 1) h = false ∧ fb' = nI n ∧ fh' = upd fh n (-1) ∧ nb' = upd nb n fb)) :
    ∃ f, Tr (n + 1) fh' nb' f fb' (lay (ins (upd lt n c)) (upd tg n h) (n + 1)) := by
  obtain ⟨f, hT⟩ := htr
  have e1 : lay (ins (upd lt n c)) (upd tg n h) n = lay (ins lt) tg n := lay_congr (fun k hk => ⟨by unfold ins; rw [pk_un (by omega)], pk_un (by omega)⟩)
  have e2 : ins (upd lt n c) n = true := ins_t (by rw [pk_us]; exact hc)
  rw [lay, if_pos e2, e1, pk_us]
  rcases hh with hh | ⟨t0, ht0, hh⟩
  · rcases h9 with ⟨t, h1, h2, -⟩ | ⟨-, rfl, rfl, rfl⟩
    · rw [hh] at h2; exact absurd h2.symm (nI_m1 (by omega))
    · subst hh
      rw [insA_front]
      refine ⟨f + 1, Or.inr ⟨n, [], lay (ins lt) tg n, rfl, by omega, rfl, ?_, ?_⟩⟩
      · rw [pk_us]
        have : Tr (n + 1) (upd fh n (-1)) (upd nb n fb) 0 (-1) [] := ⟨rfl, rfl⟩
        have := Tr_le this f
        rwa [Nat.zero_add] at this
      · rw [pk_us]
        exact Tr_keep (by omega) (fun e he => ⟨pk_un (by omega), pk_un (by omega)⟩) f _ _ hT
  · subst hh
    rcases h9 with ⟨t, h1, h2, rfl, rfl, rfl⟩ | ⟨h1, -⟩
    · have := nI_in1 (by omega) (by omega) h2
      subst this
      exact ⟨f + f, Tr_hang (by omega) ht0 (fun e g1 g2 => by rw [pk_un g2, pk_un (by omega)]) (fun e g1 => pk_un (by omega)) pk_us (by rw [pk_un (by omega), pk_us]) (by rw [pk_us, pk_un (by omega)]) f _ _ hT⟩
    · rw [ev_nI (by omega) (by omega)] at h1; cases h1
end
section
-- the class's public readers (by gen.py, specD.py)
set_option maxHeartbeats 4000000 in
set_option maxRecDepth 100000 in
theorem c_X0_eventInText (l : Launch) (D : va_G) (cI cJ : ClassId) (q : Nat → Nat) (n : Nat) (mk lt tg : Nat → Int32) (pa an la kn : Nat → Int64) (fb : Int32) (fh nb te wt bh : Nat → Int32) (v : Int64) (pp : Nat) (hI : Inv n lt tg an kn) (htr : ∃ f, Tr n fh nb f fb (lay (ins lt) tg n)) (hv : vok n an v) (hp : pp < (tx n lt tg v).length) : eg_MW D (tyL cI cJ) l yX0_eventInText wsX0_eventInText ({ frames := 4, cells := 0, slots := 0, locals := 97 }) 0 0 [.ref (q 0), .long v, .int (nI pp)] (wX q cI cJ (nI n) mk lt tg pa an la kn fb fh nb te wt bh) (fun r w1 => ∃ (te' wt' : Nat → Int32) (x : Nat), (tx n lt tg v)[pp]? = some x ∧ r = some (.int (nI x)) ∧ w1 = wX q cI cJ (nI n) mk lt tg pa an la kn fb fh nb te' wt' bh) := by
  refine Met.ofW (cc := cX0_eventInText) (maxL := 5) (ret := (some .int)) (by decide) rfl ?_
  intro p e s m args below meth c s₁ B hml hv
  obtain ⟨rfl, hP, hK, hD0⟩ := hv
  have hx := B.exec
  have hb := B.bytes
  have hr := B.returns
  have hts := atoms_spec (ws := wsX0_eventInText) B.pre
  have hown : s.vm.findClass RX0 = some m.cls := findClass_of_methodNamed B.named
  have hlocks := B.notSynchronized
  have hD := eg_D_of hD0
  have hS : va_S (eg_A (wX q cI cJ (nI n) mk lt tg pa an la kn fb fh nb te wt bh)) s.heap s.heap [] := va_S.rf
  have hin : ∀ w ∈ u_ws RX0 TX0 14, w ∈ wsX0_eventInText := by decide +kernel
  have hl := lv_entry ([.ref (q 0), .long v, .int (nI pp)]) (n := 5) (Nat.le_of_ble_eq_true rfl)
  rw [lg_entry_eq]
  generalize (lg_sl ([.ref (q 0), .long v, .int (nI pp)]) ++ List.replicate (5 - (lg_sl ([.ref (q 0), .long v, .int (nI pp)])).length) Slot.unset).toArray = ls at hl ⊢
  have hl : lv_has ls 5 [(0, .ref (q 0)), (1, .long v), (3, .int (nI pp))] := hl
  generalize h0H : s.heap = H at hP ⊢
  have hS : va_S (eg_A (wX q cI cJ (nI n) mk lt tg pa an la kn fb fh nb te wt bh)) s.heap H [] := by rw [← h0H]; exact hS
  generalize ([] : List Loc) = locs at hS ⊢
  refine lv_aload_n hx hb dX0_eventInText_0 rfl (lv_at hl 0 rfl) ?_
  refine lv_lload_n hx hb dX0_eventInText_1 rfl (lv_at hl 1 rfl) ?_
  have e9 := tx_all hI (hv)
  refine eg_callWV (As := [.long v]) (rest := []) hx hb hml hown hts hK hP hD rfl hS (c_X0_findText l D cI cJ q n mk lt tg pa an la kn fb fh nb te wt bh v (lay (ins lt) tg n) hI.1 hI.hdl htr (Nat.le_trans (lay_len n (lay_nodup (Nat.le_trans hI.1 (by decide)) hI.hangA)) hI.1)) (cwV 1 hts gX0_eventInText_X0_findText rfl rfl rfl (by decide +kernel) ⟨Nat.le_of_ble_eq_true rfl, Nat.le_of_ble_eq_true rfl⟩) (va_recv hK hP (ci := 0) (q0 := 0) rfl rfl) rfl hl.1 rfl (Nat.le_of_ble_eq_true rfl) dX0_eventInText_2 ⟨Nat.zero_le _, Nat.zero_le _⟩ (fun v9 w9 H locs hR9 hw9 hP hS => ?_)
  obtain ⟨te1, wt1, rfl, rfl, hh1⟩ := hR9
  rw [e9] at hh1 ⊢
  have hT9 := tx_len hI (hv)
  have hI1 := hI.1
  refine lv_istore (lv' := [(4, .int (nI ((tx n lt tg v).length))), (0, .ref (q 0)), (1, .long v), (3, .int (nI pp))]) hx hb dX0_eventInText_5 hl (by decide) rfl (fun ls hl => ?_)
  refine lv_aload_n hx hb dX0_eventInText_7 rfl (lv_at hl 1 rfl) ?_
  refine lv_iload_n hx hb dX0_eventInText_8 rfl (lv_at hl 3 rfl) ?_
  refine lv_iload hx hb dX0_eventInText_9 (lv_at hl 0 rfl) ?_
  refine eg_callV (As := [.int (nI pp), .int (nI ((tx n lt tg v).length))]) (rest := []) hx hb hml hown hts hK hP (c_X0_checkPlace l D cI cJ q n mk lt tg pa an la kn fb fh nb te1 wt1 bh pp ((tx n lt tg v).length) hp (by omega)) (cwV 2 hts gX0_eventInText_X0_checkPlace rfl rfl rfl (by decide +kernel) ⟨Nat.le_of_ble_eq_true rfl, Nat.le_of_ble_eq_true rfl⟩) (va_recv hK hP (ci := 0) (q0 := 0) rfl rfl) rfl hl.1 rfl (Nat.le_of_ble_eq_true rfl) dX0_eventInText_11 ⟨Nat.zero_le _, Nat.zero_le _⟩ ?_
  refine lv_aload_n hx hb dX0_eventInText_14 rfl (lv_at hl 1 rfl) ?_
  refine va_get (D := D) (ci := 0) (v := .ref (q 10)) (C := RX0) (T := TX0) (N := 14) hx hb hts hin hown hK hP 0 rfl rfl 11 (by decide) (hts (.fieldLink RX0 45 "EditGraph" "textEvents" "[I") (by decide +kernel)) (fun _ h9 => h9) rfl dX0_eventInText_15 ?_
  refine lv_iload_n hx hb dX0_eventInText_18 rfl (lv_at hl 3 rfl) ?_
  refine eg_iald hx hb hK hP 10 0 rfl rfl (by omega) (by decide) dX0_eventInText_19 ?_
  obtain ⟨x9, hx9⟩ := getq hp
  rw [hh1 _ _ hx9]
  exact W.iret hx hb hr (fun t9 ht9 _ => ⟨some (.int (nI x9)), (wX q cI cJ (nI n) mk lt tg pa an la kn fb fh nb te1 wt1 bh), rfl, ⟨te1, wt1, x9, hx9, rfl, rfl⟩, rfl, by rw [ht9]; exact hP, hS.F ht9⟩) hS.2.2 dX0_eventInText_20
set_option maxHeartbeats 4000000 in
set_option maxRecDepth 100000 in
theorem c_X0_eventInText_no (l : Launch) (D : va_G) (cI cJ : ClassId) (q : Nat → Nat) (n : Nat) (mk lt tg : Nat → Int32) (pa an la kn : Nat → Int64) (fb : Int32) (fh nb te wt bh : Nat → Int32) (v : Int64) (x : Int32) (hI : Inv n lt tg an kn) (htr : ∃ f, Tr n fh nb f fb (lay (ins lt) tg n)) (hv : vok n an v) (hbad : bad (tx n lt tg v).length x) (hfl : l.stackTraces = false) : eg_MX D (tyL cI cJ) l yX0_eventInText wsX0_eventInText ({ frames := 7, cells := 1, slots := 6, locals := 104 }) [.ref (q 0), .long v, .int x] (wX q cI cJ (nI n) mk lt tg pa an la kn fb fh nb te wt bh) "java/lang/IndexOutOfBoundsException" (fun w1 => ∃ (te' wt' bh' : Nat → Int32), w1 = wX q cI cJ (nI n) mk lt tg pa an la kn fb fh nb te' wt' bh') := by
  refine vx_ofW (cc := cX0_eventInText) (maxL := 5) (ret := (some .int)) (by decide) rfl ?_
  intro p e s m args below meth c s₁ B hml htb hv
  obtain ⟨rfl, hP, hK, hD0, hT⟩ := hv
  have hx := B.exec
  have hb := B.bytes
  have hr := B.returns
  have hts := atoms_spec (ws := wsX0_eventInText) B.pre
  have hown : s.vm.findClass RX0 = some m.cls := findClass_of_methodNamed B.named
  have hlocks := B.notSynchronized
  have hD := eg_D_of hD0
  have hS : va_S (eg_A (wX q cI cJ (nI n) mk lt tg pa an la kn fb fh nb te wt bh)) s.heap s.heap [] := va_S.rf
  have hin : ∀ w ∈ u_ws RX0 TX0 14, w ∈ wsX0_eventInText := by decide +kernel
  have hl := lv_entry ([.ref (q 0), .long v, .int x]) (n := 5) (Nat.le_of_ble_eq_true rfl)
  rw [lg_entry_eq]
  generalize (lg_sl ([.ref (q 0), .long v, .int x]) ++ List.replicate (5 - (lg_sl ([.ref (q 0), .long v, .int x])).length) Slot.unset).toArray = ls at hl ⊢
  have hl : lv_has ls 5 [(0, .ref (q 0)), (1, .long v), (3, .int x)] := hl
  generalize h0H : s.heap = H at hP ⊢
  have hS : va_S (eg_A (wX q cI cJ (nI n) mk lt tg pa an la kn fb fh nb te wt bh)) s.heap H [] := by rw [← h0H]; exact hS
  generalize ([] : List Loc) = locs at hS ⊢
  refine lv_aload_n hx hb dX0_eventInText_0 rfl (lv_at hl 0 rfl) ?_
  refine lv_lload_n hx hb dX0_eventInText_1 rfl (lv_at hl 1 rfl) ?_
  have e9 := tx_all hI (hv)
  refine eg_callWV (As := [.long v]) (rest := []) hx hb hml hown hts hK hP hD rfl hS (c_X0_findText l D cI cJ q n mk lt tg pa an la kn fb fh nb te wt bh v (lay (ins lt) tg n) hI.1 hI.hdl htr (Nat.le_trans (lay_len n (lay_nodup (Nat.le_trans hI.1 (by decide)) hI.hangA)) hI.1)) (cwV 1 hts gX0_eventInText_X0_findText rfl rfl rfl (by decide +kernel) ⟨Nat.le_of_ble_eq_true rfl, Nat.le_of_ble_eq_true rfl⟩) (va_recv hK hP (ci := 0) (q0 := 0) rfl rfl) rfl hl.1 rfl (Nat.le_of_ble_eq_true rfl) dX0_eventInText_2 ⟨Nat.zero_le _, Nat.zero_le _⟩ (fun v9 w9 H locs hR9 hw9 hP hS => ?_)
  obtain ⟨te1, wt1, rfl, rfl, hh1⟩ := hR9
  rw [e9] at hh1 ⊢
  have hT9 := tx_len hI (hv)
  have hI1 := hI.1
  refine lv_istore (lv' := [(4, .int (nI ((tx n lt tg v).length))), (0, .ref (q 0)), (1, .long v), (3, .int x)]) hx hb dX0_eventInText_5 hl (by decide) rfl (fun ls hl => ?_)
  refine lv_aload_n hx hb dX0_eventInText_7 rfl (lv_at hl 1 rfl) ?_
  refine lv_iload_n hx hb dX0_eventInText_8 rfl (lv_at hl 3 rfl) ?_
  refine lv_iload hx hb dX0_eventInText_9 (lv_at hl 0 rfl) ?_
  exact eg_callXout (As := [.int x, .int (nI ((tx n lt tg v).length))]) (rest := []) hx hb hml hown hts hK hP hD rfl hS hT [0, 1, 2, 3, 4, 5, 6, 7, 8, 9, 10, 11, 12] rfl (by decide) (c_X0_checkPlace_no l D cI cJ q n mk lt tg pa an la kn fb fh nb te1 wt1 bh x ((tx n lt tg v).length) hbad hfl) (cwV 2 hts gX0_eventInText_X0_checkPlace rfl rfl rfl (by decide +kernel) ⟨Nat.le_of_ble_eq_true rfl, Nat.le_of_ble_eq_true rfl⟩) (va_recv hK hP (ci := 0) (q0 := 0) rfl rfl) rfl hl.1 rfl (Nat.le_of_ble_eq_true rfl) dX0_eventInText_11 ⟨Nat.le_of_ble_eq_true rfl, Nat.le_of_ble_eq_true rfl⟩ htb hlocks (fun w1 h => ⟨_, _, _, h⟩)
set_option maxHeartbeats 4000000 in
set_option maxRecDepth 100000 in
theorem c_X0_events (l : Launch) (D : va_G) (cI cJ : ClassId) (q : Nat → Nat) (n : Nat) (mk lt tg : Nat → Int32) (pa an la kn : Nat → Int64) (fb : Int32) (fh nb te wt bh : Nat → Int32) : eg_MR D (tyL cI cJ) l yX0_events wsX0_events ({ frames := 0, cells := 0, slots := 0, locals := 0 }) [.ref (q 0)] (wX q cI cJ (nI n) mk lt tg pa an la kn fb fh nb te wt bh) (some (.int (nI n))) := by
  refine Met.ofW (cc := cX0_events) (maxL := 1) (ret := (some .int)) (by decide) rfl ?_
  intro p e s m args below meth c s₁ B hml hv
  obtain ⟨rfl, hP, hK⟩ := hv
  have hx := B.exec
  have hb := B.bytes
  have hr := B.returns
  have hts := atoms_spec (ws := wsX0_events) B.pre
  have hown : s.vm.findClass RX0 = some m.cls := findClass_of_methodNamed B.named
  have hlocks := B.notSynchronized
  have hin : ∀ w ∈ u_ws RX0 TX0 14, w ∈ wsX0_events := by decide +kernel
  have hl := lv_entry ([.ref (q 0)]) (n := 1) (Nat.le_of_ble_eq_true rfl)
  rw [lg_entry_eq]
  generalize (lg_sl ([.ref (q 0)]) ++ List.replicate (1 - (lg_sl ([.ref (q 0)])).length) Slot.unset).toArray = ls at hl ⊢
  have hl : lv_has ls 1 [(0, .ref (q 0))] := hl
  refine lv_aload_n hx hb dX0_events_0 rfl (lv_at hl 0 rfl) ?_
  refine va_get (D := D) (ci := 0) (v := .int (nI n)) (C := RX0) (T := TX0) (N := 14) hx hb hts hin hown hK hP 0 rfl rfl 0 (by decide) (hts (.fieldLink RX0 7 "EditGraph" "eventCount" "I") (by decide +kernel)) (fun _ h9 => h9) rfl dX0_events_1 ?_
  exact W.iret hx hb hr (fun t9 ht9 _ => ⟨congrArg (fun z => Outcome.returned (some (Value.int z))) (by first | exact rfl), ht9⟩) (fun q h => nomatch h) dX0_events_4
set_option maxHeartbeats 4000000 in
set_option maxRecDepth 100000 in
theorem c_X0_authorOf (l : Launch) (D : va_G) (cI cJ : ClassId) (q : Nat → Nat) (n : Nat) (mk lt tg : Nat → Int32) (pa an la kn : Nat → Int64) (fb : Int32) (fh nb te wt bh : Nat → Int32) (e0 : Nat) (hI : Inv n lt tg an kn) (he : e0 < n) : eg_MR D (tyL cI cJ) l yX0_authorOf wsX0_authorOf ({ frames := 2, cells := 0, slots := 0, locals := 42 }) [.ref (q 0), .int (nI e0)] (wX q cI cJ (nI n) mk lt tg pa an la kn fb fh nb te wt bh) (some (.int (mk e0))) := by
  have hI1 := hI.1
  refine Met.ofW (cc := cX0_authorOf) (maxL := 2) (ret := (some .int)) (by decide) rfl ?_
  intro p e s m args below meth c s₁ B hml hv
  obtain ⟨rfl, hP, hK⟩ := hv
  have hx := B.exec
  have hb := B.bytes
  have hr := B.returns
  have hts := atoms_spec (ws := wsX0_authorOf) B.pre
  have hown : s.vm.findClass RX0 = some m.cls := findClass_of_methodNamed B.named
  have hlocks := B.notSynchronized
  have hin : ∀ w ∈ u_ws RX0 TX0 14, w ∈ wsX0_authorOf := by decide +kernel
  have hl := lv_entry ([.ref (q 0), .int (nI e0)]) (n := 2) (Nat.le_of_ble_eq_true rfl)
  rw [lg_entry_eq]
  generalize (lg_sl ([.ref (q 0), .int (nI e0)]) ++ List.replicate (2 - (lg_sl ([.ref (q 0), .int (nI e0)])).length) Slot.unset).toArray = ls at hl ⊢
  have hl : lv_has ls 2 [(0, .ref (q 0)), (1, .int (nI e0))] := hl
  refine lv_aload_n hx hb dX0_authorOf_0 rfl (lv_at hl 0 rfl) ?_
  refine lv_iload_n hx hb dX0_authorOf_1 rfl (lv_at hl 1 rfl) ?_
  refine eg_callV (As := [.int (nI e0)]) (rest := []) hx hb hml hown hts hK hP (c_X0_checkEvent l D cI cJ q n mk lt tg pa an la kn fb fh nb te wt bh e0 hI.1 (by omega)) (cwV 1 hts gX0_authorOf_X0_checkEvent rfl rfl rfl (by decide +kernel) ⟨Nat.le_of_ble_eq_true rfl, Nat.le_of_ble_eq_true rfl⟩) (va_recv hK hP (ci := 0) (q0 := 0) rfl rfl) rfl hl.1 rfl (Nat.le_of_ble_eq_true rfl) dX0_authorOf_2 ⟨Nat.zero_le _, Nat.zero_le _⟩ ?_
  refine lv_aload_n hx hb dX0_authorOf_5 rfl (lv_at hl 0 rfl) ?_
  refine va_get (D := D) (ci := 0) (v := .ref (q 1)) (C := RX0) (T := TX0) (N := 14) hx hb hts hin hown hK hP 0 rfl rfl 1 (by decide) (hts (.fieldLink RX0 13 "EditGraph" "makers" "[I") (by decide +kernel)) (fun _ h9 => h9) rfl dX0_authorOf_6 ?_
  refine lv_iload_n hx hb dX0_authorOf_9 rfl (lv_at hl 1 rfl) ?_
  refine eg_iald hx hb hK hP 1 0 rfl rfl (by omega) (by decide) dX0_authorOf_10 ?_
  exact W.iret hx hb hr (fun t9 ht9 _ => ⟨congrArg (fun z => Outcome.returned (some (Value.int z))) (by first | exact rfl), ht9⟩) (fun q h => nomatch h) dX0_authorOf_11
set_option maxHeartbeats 4000000 in
set_option maxRecDepth 100000 in
theorem c_X0_parents (l : Launch) (D : va_G) (cI cJ : ClassId) (q : Nat → Nat) (n : Nat) (mk lt tg : Nat → Int32) (pa an la kn : Nat → Int64) (fb : Int32) (fh nb te wt bh : Nat → Int32) (e0 : Nat) (hI : Inv n lt tg an kn) (he : e0 < n) : eg_MR D (tyL cI cJ) l yX0_parents wsX0_parents ({ frames := 2, cells := 0, slots := 0, locals := 42 }) [.ref (q 0), .int (nI e0)] (wX q cI cJ (nI n) mk lt tg pa an la kn fb fh nb te wt bh) (some (.long (pa e0))) := by
  have hI1 := hI.1
  refine Met.ofW (cc := cX0_parents) (maxL := 2) (ret := (some .long)) (by decide) rfl ?_
  intro p e s m args below meth c s₁ B hml hv
  obtain ⟨rfl, hP, hK⟩ := hv
  have hx := B.exec
  have hb := B.bytes
  have hr := B.returns
  have hts := atoms_spec (ws := wsX0_parents) B.pre
  have hown : s.vm.findClass RX0 = some m.cls := findClass_of_methodNamed B.named
  have hlocks := B.notSynchronized
  have hin : ∀ w ∈ u_ws RX0 TX0 14, w ∈ wsX0_parents := by decide +kernel
  have hl := lv_entry ([.ref (q 0), .int (nI e0)]) (n := 2) (Nat.le_of_ble_eq_true rfl)
  rw [lg_entry_eq]
  generalize (lg_sl ([.ref (q 0), .int (nI e0)]) ++ List.replicate (2 - (lg_sl ([.ref (q 0), .int (nI e0)])).length) Slot.unset).toArray = ls at hl ⊢
  have hl : lv_has ls 2 [(0, .ref (q 0)), (1, .int (nI e0))] := hl
  refine lv_aload_n hx hb dX0_parents_0 rfl (lv_at hl 0 rfl) ?_
  refine lv_iload_n hx hb dX0_parents_1 rfl (lv_at hl 1 rfl) ?_
  refine eg_callV (As := [.int (nI e0)]) (rest := []) hx hb hml hown hts hK hP (c_X0_checkEvent l D cI cJ q n mk lt tg pa an la kn fb fh nb te wt bh e0 hI.1 (by omega)) (cwV 1 hts gX0_parents_X0_checkEvent rfl rfl rfl (by decide +kernel) ⟨Nat.le_of_ble_eq_true rfl, Nat.le_of_ble_eq_true rfl⟩) (va_recv hK hP (ci := 0) (q0 := 0) rfl rfl) rfl hl.1 rfl (Nat.le_of_ble_eq_true rfl) dX0_parents_2 ⟨Nat.zero_le _, Nat.zero_le _⟩ ?_
  refine lv_aload_n hx hb dX0_parents_5 rfl (lv_at hl 0 rfl) ?_
  refine va_get (D := D) (ci := 0) (v := .ref (q 4)) (C := RX0) (T := TX0) (N := 14) hx hb hts hin hown hK hP 0 rfl rfl 4 (by decide) (hts (.fieldLink RX0 23 "EditGraph" "parentSets" "[J") (by decide +kernel)) (fun _ h9 => h9) rfl dX0_parents_6 ?_
  refine lv_iload_n hx hb dX0_parents_9 rfl (lv_at hl 1 rfl) ?_
  refine eg_lald hx hb hK hP 4 1 rfl rfl (by omega) (by decide) dX0_parents_10 ?_
  exact W.lret hx hb hr (fun t9 ht9 _ => ⟨congrArg (fun z => Outcome.returned (some (Value.long z))) (by first | exact rfl), ht9⟩) (fun q h => nomatch h) dX0_parents_11
set_option maxHeartbeats 4000000 in
set_option maxRecDepth 100000 in
theorem c_X0_isLater (l : Launch) (D : va_G) (cI cJ : ClassId) (q : Nat → Nat) (n : Nat) (mk lt tg : Nat → Int32) (pa an la kn : Nat → Int64) (fb : Int32) (fh nb te wt bh : Nat → Int32) (e0 : Nat) (e1 : Nat) (hI : Inv n lt tg an kn) (he : e0 < n) (he1 : e1 < n) : eg_MR D (tyL cI cJ) l yX0_isLater wsX0_isLater ({ frames := 2, cells := 0, slots := 0, locals := 42 }) [.ref (q 0), .int (nI e0), .int (nI e1)] (wX q cI cJ (nI n) mk lt tg pa an la kn fb fh nb te wt bh) (some (.int (eb (bi (an e0) e1)))) := by
  have hI1 := hI.1
  refine Met.ofW (cc := cX0_isLater) (maxL := 3) (ret := (some .boolean)) (by decide) rfl ?_
  intro p e s m args below meth c s₁ B hml hv
  obtain ⟨rfl, hP, hK⟩ := hv
  have hx := B.exec
  have hb := B.bytes
  have hr := B.returns
  have hts := atoms_spec (ws := wsX0_isLater) B.pre
  have hown : s.vm.findClass RX0 = some m.cls := findClass_of_methodNamed B.named
  have hlocks := B.notSynchronized
  have hin : ∀ w ∈ u_ws RX0 TX0 14, w ∈ wsX0_isLater := by decide +kernel
  have hl := lv_entry ([.ref (q 0), .int (nI e0), .int (nI e1)]) (n := 3) (Nat.le_of_ble_eq_true rfl)
  rw [lg_entry_eq]
  generalize (lg_sl ([.ref (q 0), .int (nI e0), .int (nI e1)]) ++ List.replicate (3 - (lg_sl ([.ref (q 0), .int (nI e0), .int (nI e1)])).length) Slot.unset).toArray = ls at hl ⊢
  have hl : lv_has ls 3 [(0, .ref (q 0)), (1, .int (nI e0)), (2, .int (nI e1))] := hl
  refine lv_aload_n hx hb dX0_isLater_0 rfl (lv_at hl 0 rfl) ?_
  refine lv_iload_n hx hb dX0_isLater_1 rfl (lv_at hl 1 rfl) ?_
  refine eg_callV (As := [.int (nI e0)]) (rest := []) hx hb hml hown hts hK hP (c_X0_checkEvent l D cI cJ q n mk lt tg pa an la kn fb fh nb te wt bh e0 hI.1 (by omega)) (cwV 1 hts gX0_isLater_X0_checkEvent rfl rfl rfl (by decide +kernel) ⟨Nat.le_of_ble_eq_true rfl, Nat.le_of_ble_eq_true rfl⟩) (va_recv hK hP (ci := 0) (q0 := 0) rfl rfl) rfl hl.1 rfl (Nat.le_of_ble_eq_true rfl) dX0_isLater_2 ⟨Nat.zero_le _, Nat.zero_le _⟩ ?_
  refine lv_aload_n hx hb dX0_isLater_5 rfl (lv_at hl 0 rfl) ?_
  refine lv_iload_n hx hb dX0_isLater_6 rfl (lv_at hl 2 rfl) ?_
  refine eg_callV (As := [.int (nI e1)]) (rest := []) hx hb hml hown hts hK hP (c_X0_checkEvent l D cI cJ q n mk lt tg pa an la kn fb fh nb te wt bh e1 hI.1 (by omega)) (cwV 1 hts gX0_isLater_X0_checkEvent rfl rfl rfl (by decide +kernel) ⟨Nat.le_of_ble_eq_true rfl, Nat.le_of_ble_eq_true rfl⟩) (va_recv hK hP (ci := 0) (q0 := 0) rfl rfl) rfl hl.1 rfl (Nat.le_of_ble_eq_true rfl) dX0_isLater_7 ⟨Nat.zero_le _, Nat.zero_le _⟩ ?_
  refine lv_aload_n hx hb dX0_isLater_10 rfl (lv_at hl 0 rfl) ?_
  refine va_get (D := D) (ci := 0) (v := .ref (q 5)) (C := RX0) (T := TX0) (N := 14) hx hb hts hin hown hK hP 0 rfl rfl 5 (by decide) (hts (.fieldLink RX0 27 "EditGraph" "ancestorSets" "[J") (by decide +kernel)) (fun _ h9 => h9) rfl dX0_isLater_11 ?_
  refine lv_iload_n hx hb dX0_isLater_14 rfl (lv_at hl 1 rfl) ?_
  refine eg_lald hx hb hK hP 5 1 rfl rfl (by omega) (by decide) dX0_isLater_15 ?_
  refine lv_iload_n hx hb dX0_isLater_16 rfl (lv_at hl 2 rfl) ?_
  refine eg_callS (As := [.long (an e0), .int (nI e1)]) (rest := []) hx hb hml hown hts hK (c_X0_has l D cI cJ (an e0) e1 (by omega)) (va_cwS 2 hts gX0_isLater_X0_has rfl rfl rfl (by decide +kernel) ⟨Nat.le_of_ble_eq_true rfl, Nat.le_of_ble_eq_true rfl⟩) rfl hl.1 rfl (Nat.le_of_ble_eq_true rfl) dX0_isLater_17 ⟨Nat.zero_le _, Nat.zero_le _⟩ ?_
  exact W.zret hx hb hr (by first | rfl | exact eb_nar) (fun t9 ht9 _ => ⟨congrArg (fun z => Outcome.returned (some (Value.int z))) (by first | exact rfl), ht9⟩) (fun q h => nomatch h) dX0_isLater_20
set_option maxHeartbeats 4000000 in
set_option maxRecDepth 100000 in
theorem c_X0_version (l : Launch) (D : va_G) (cI cJ : ClassId) (q : Nat → Nat) (n : Nat) (mk lt tg : Nat → Int32) (pa an la kn : Nat → Int64) (fb : Int32) (fh nb te wt bh : Nat → Int32) (a : Nat) (ha : a < 4) : eg_MR D (tyL cI cJ) l yX0_version wsX0_version ({ frames := 1, cells := 0, slots := 0, locals := 21 }) [.ref (q 0), .int (nI a)] (wX q cI cJ (nI n) mk lt tg pa an la kn fb fh nb te wt bh) (some (.long (kn a))) := by
  refine Met.ofW (cc := cX0_version) (maxL := 2) (ret := (some .long)) (by decide) rfl ?_
  intro p e s m args below meth c s₁ B hml hv
  obtain ⟨rfl, hP, hK⟩ := hv
  have hx := B.exec
  have hb := B.bytes
  have hr := B.returns
  have hts := atoms_spec (ws := wsX0_version) B.pre
  have hown : s.vm.findClass RX0 = some m.cls := findClass_of_methodNamed B.named
  have hlocks := B.notSynchronized
  have hin : ∀ w ∈ u_ws RX0 TX0 14, w ∈ wsX0_version := by decide +kernel
  have hl := lv_entry ([.ref (q 0), .int (nI a)]) (n := 2) (Nat.le_of_ble_eq_true rfl)
  rw [lg_entry_eq]
  generalize (lg_sl ([.ref (q 0), .int (nI a)]) ++ List.replicate (2 - (lg_sl ([.ref (q 0), .int (nI a)])).length) Slot.unset).toArray = ls at hl ⊢
  have hl : lv_has ls 2 [(0, .ref (q 0)), (1, .int (nI a))] := hl
  refine lv_aload_n hx hb dX0_version_0 rfl (lv_at hl 0 rfl) ?_
  refine lv_iload_n hx hb dX0_version_1 rfl (lv_at hl 1 rfl) ?_
  refine eg_callV (As := [.int (nI a)]) (rest := []) hx hb hml hown hts hK hP (c_X0_checkAuthor l D cI cJ q n mk lt tg pa an la kn fb fh nb te wt bh a (by omega)) (cwV 1 hts gX0_version_X0_checkAuthor rfl rfl rfl (by decide +kernel) ⟨Nat.le_of_ble_eq_true rfl, Nat.le_of_ble_eq_true rfl⟩) (va_recv hK hP (ci := 0) (q0 := 0) rfl rfl) rfl hl.1 rfl (Nat.le_of_ble_eq_true rfl) dX0_version_2 ⟨Nat.zero_le _, Nat.zero_le _⟩ ?_
  refine lv_aload_n hx hb dX0_version_5 rfl (lv_at hl 0 rfl) ?_
  refine va_get (D := D) (ci := 0) (v := .ref (q 7)) (C := RX0) (T := TX0) (N := 14) hx hb hts hin hown hK hP 0 rfl rfl 7 (by decide) (hts (.fieldLink RX0 33 "EditGraph" "knownSets" "[J") (by decide +kernel)) (fun _ h9 => h9) rfl dX0_version_6 ?_
  refine lv_iload_n hx hb dX0_version_9 rfl (lv_at hl 1 rfl) ?_
  refine eg_lald hx hb hK hP 7 1 rfl rfl (by omega) (by decide) dX0_version_10 ?_
  exact W.lret hx hb hr (fun t9 ht9 _ => ⟨congrArg (fun z => Outcome.returned (some (Value.long z))) (by first | exact rfl), ht9⟩) (fun q h => nomatch h) dX0_version_11
set_option maxHeartbeats 4000000 in
set_option maxRecDepth 100000 in
theorem c_X0_heads (l : Launch) (D : va_G) (cI cJ : ClassId) (q : Nat → Nat) (n : Nat) (mk lt tg : Nat → Int32) (pa an la kn : Nat → Int64) (fb : Int32) (fh nb te wt bh : Nat → Int32) (a : Nat) (hI : Inv n lt tg an kn) (ha : a < 4) : eg_MR D (tyL cI cJ) l yX0_heads wsX0_heads ({ frames := 3, cells := 0, slots := 0, locals := 67 }) [.ref (q 0), .int (nI a)] (wX q cI cJ (nI n) mk lt tg pa an la kn fb fh nb te wt bh) (some (.long (hdX pa (kn a) n))) := by
  refine Met.ofW (cc := cX0_heads) (maxL := 2) (ret := (some .long)) (by decide) rfl ?_
  intro p e s m args below meth c s₁ B hml hv
  obtain ⟨rfl, hP, hK⟩ := hv
  have hx := B.exec
  have hb := B.bytes
  have hr := B.returns
  have hts := atoms_spec (ws := wsX0_heads) B.pre
  have hown : s.vm.findClass RX0 = some m.cls := findClass_of_methodNamed B.named
  have hlocks := B.notSynchronized
  have hin : ∀ w ∈ u_ws RX0 TX0 14, w ∈ wsX0_heads := by decide +kernel
  have hl := lv_entry ([.ref (q 0), .int (nI a)]) (n := 2) (Nat.le_of_ble_eq_true rfl)
  rw [lg_entry_eq]
  generalize (lg_sl ([.ref (q 0), .int (nI a)]) ++ List.replicate (2 - (lg_sl ([.ref (q 0), .int (nI a)])).length) Slot.unset).toArray = ls at hl ⊢
  have hl : lv_has ls 2 [(0, .ref (q 0)), (1, .int (nI a))] := hl
  refine lv_aload_n hx hb dX0_heads_0 rfl (lv_at hl 0 rfl) ?_
  refine lv_iload_n hx hb dX0_heads_1 rfl (lv_at hl 1 rfl) ?_
  refine eg_callV (As := [.int (nI a)]) (rest := []) hx hb hml hown hts hK hP (c_X0_checkAuthor l D cI cJ q n mk lt tg pa an la kn fb fh nb te wt bh a (by omega)) (cwV 1 hts gX0_heads_X0_checkAuthor rfl rfl rfl (by decide +kernel) ⟨Nat.le_of_ble_eq_true rfl, Nat.le_of_ble_eq_true rfl⟩) (va_recv hK hP (ci := 0) (q0 := 0) rfl rfl) rfl hl.1 rfl (Nat.le_of_ble_eq_true rfl) dX0_heads_2 ⟨Nat.zero_le _, Nat.zero_le _⟩ ?_
  refine lv_aload_n hx hb dX0_heads_5 rfl (lv_at hl 0 rfl) ?_
  refine lv_aload_n hx hb dX0_heads_6 rfl (lv_at hl 0 rfl) ?_
  refine va_get (D := D) (ci := 0) (v := .ref (q 7)) (C := RX0) (T := TX0) (N := 14) hx hb hts hin hown hK hP 0 rfl rfl 7 (by decide) (hts (.fieldLink RX0 33 "EditGraph" "knownSets" "[J") (by decide +kernel)) (fun _ h9 => h9) rfl dX0_heads_7 ?_
  refine lv_iload_n hx hb dX0_heads_10 rfl (lv_at hl 1 rfl) ?_
  refine eg_lald hx hb hK hP 7 1 rfl rfl (by omega) (by decide) dX0_heads_11 ?_
  refine eg_callV (As := [.long (kn a)]) (rest := []) hx hb hml hown hts hK hP (c_X0_headsOf l D cI cJ q n mk lt tg pa an la kn fb fh nb te wt bh (kn a) hI.1) (cwV 1 hts gX0_heads_X0_headsOf rfl rfl rfl (by decide +kernel) ⟨Nat.le_of_ble_eq_true rfl, Nat.le_of_ble_eq_true rfl⟩) (va_recv hK hP (ci := 0) (q0 := 0) rfl rfl) rfl hl.1 rfl (Nat.le_of_ble_eq_true rfl) dX0_heads_12 ⟨Nat.zero_le _, Nat.zero_le _⟩ ?_
  exact W.lret hx hb hr (fun t9 ht9 _ => ⟨congrArg (fun z => Outcome.returned (some (Value.long z))) (by first | exact rfl), ht9⟩) (fun q h => nomatch h) dX0_heads_15
set_option maxHeartbeats 4000000 in
set_option maxRecDepth 100000 in
theorem c_X0_commonHeads (l : Launch) (D : va_G) (cI cJ : ClassId) (q : Nat → Nat) (n : Nat) (mk lt tg : Nat → Int32) (pa an la kn : Nat → Int64) (fb : Int32) (fh nb te wt bh : Nat → Int32) (a : Nat) (b : Nat) (hI : Inv n lt tg an kn) (ha : a < 4) (hb4 : b < 4) : eg_MR D (tyL cI cJ) l yX0_commonHeads wsX0_commonHeads ({ frames := 3, cells := 0, slots := 0, locals := 67 }) [.ref (q 0), .int (nI a), .int (nI b)] (wX q cI cJ (nI n) mk lt tg pa an la kn fb fh nb te wt bh) (some (.long (hdX pa (kn a &&& kn b) n))) := by
  refine Met.ofW (cc := cX0_commonHeads) (maxL := 3) (ret := (some .long)) (by decide) rfl ?_
  intro p e s m args below meth c s₁ B hml hv
  obtain ⟨rfl, hP, hK⟩ := hv
  have hx := B.exec
  have hb := B.bytes
  have hr := B.returns
  have hts := atoms_spec (ws := wsX0_commonHeads) B.pre
  have hown : s.vm.findClass RX0 = some m.cls := findClass_of_methodNamed B.named
  have hlocks := B.notSynchronized
  have hin : ∀ w ∈ u_ws RX0 TX0 14, w ∈ wsX0_commonHeads := by decide +kernel
  have hl := lv_entry ([.ref (q 0), .int (nI a), .int (nI b)]) (n := 3) (Nat.le_of_ble_eq_true rfl)
  rw [lg_entry_eq]
  generalize (lg_sl ([.ref (q 0), .int (nI a), .int (nI b)]) ++ List.replicate (3 - (lg_sl ([.ref (q 0), .int (nI a), .int (nI b)])).length) Slot.unset).toArray = ls at hl ⊢
  have hl : lv_has ls 3 [(0, .ref (q 0)), (1, .int (nI a)), (2, .int (nI b))] := hl
  refine lv_aload_n hx hb dX0_commonHeads_0 rfl (lv_at hl 0 rfl) ?_
  refine lv_iload_n hx hb dX0_commonHeads_1 rfl (lv_at hl 1 rfl) ?_
  refine eg_callV (As := [.int (nI a)]) (rest := []) hx hb hml hown hts hK hP (c_X0_checkAuthor l D cI cJ q n mk lt tg pa an la kn fb fh nb te wt bh a (by omega)) (cwV 1 hts gX0_commonHeads_X0_checkAuthor rfl rfl rfl (by decide +kernel) ⟨Nat.le_of_ble_eq_true rfl, Nat.le_of_ble_eq_true rfl⟩) (va_recv hK hP (ci := 0) (q0 := 0) rfl rfl) rfl hl.1 rfl (Nat.le_of_ble_eq_true rfl) dX0_commonHeads_2 ⟨Nat.zero_le _, Nat.zero_le _⟩ ?_
  refine lv_aload_n hx hb dX0_commonHeads_5 rfl (lv_at hl 0 rfl) ?_
  refine lv_iload_n hx hb dX0_commonHeads_6 rfl (lv_at hl 2 rfl) ?_
  refine eg_callV (As := [.int (nI b)]) (rest := []) hx hb hml hown hts hK hP (c_X0_checkAuthor l D cI cJ q n mk lt tg pa an la kn fb fh nb te wt bh b (by omega)) (cwV 1 hts gX0_commonHeads_X0_checkAuthor rfl rfl rfl (by decide +kernel) ⟨Nat.le_of_ble_eq_true rfl, Nat.le_of_ble_eq_true rfl⟩) (va_recv hK hP (ci := 0) (q0 := 0) rfl rfl) rfl hl.1 rfl (Nat.le_of_ble_eq_true rfl) dX0_commonHeads_7 ⟨Nat.zero_le _, Nat.zero_le _⟩ ?_
  refine lv_aload_n hx hb dX0_commonHeads_10 rfl (lv_at hl 0 rfl) ?_
  refine lv_aload_n hx hb dX0_commonHeads_11 rfl (lv_at hl 0 rfl) ?_
  refine va_get (D := D) (ci := 0) (v := .ref (q 7)) (C := RX0) (T := TX0) (N := 14) hx hb hts hin hown hK hP 0 rfl rfl 7 (by decide) (hts (.fieldLink RX0 33 "EditGraph" "knownSets" "[J") (by decide +kernel)) (fun _ h9 => h9) rfl dX0_commonHeads_12 ?_
  refine lv_iload_n hx hb dX0_commonHeads_15 rfl (lv_at hl 1 rfl) ?_
  refine eg_lald hx hb hK hP 7 1 rfl rfl (by omega) (by decide) dX0_commonHeads_16 ?_
  refine lv_aload_n hx hb dX0_commonHeads_17 rfl (lv_at hl 0 rfl) ?_
  refine va_get (D := D) (ci := 0) (v := .ref (q 7)) (C := RX0) (T := TX0) (N := 14) hx hb hts hin hown hK hP 0 rfl rfl 7 (by decide) (hts (.fieldLink RX0 33 "EditGraph" "knownSets" "[J") (by decide +kernel)) (fun _ h9 => h9) rfl dX0_commonHeads_18 ?_
  refine lv_iload_n hx hb dX0_commonHeads_21 rfl (lv_at hl 2 rfl) ?_
  refine eg_lald hx hb hK hP 7 1 rfl rfl (by omega) (by decide) dX0_commonHeads_22 ?_
  refine lv_land hx hb dX0_commonHeads_23 ?_
  refine eg_callV (As := [.long ((kn a) &&& (kn b))]) (rest := []) hx hb hml hown hts hK hP (c_X0_headsOf l D cI cJ q n mk lt tg pa an la kn fb fh nb te wt bh ((kn a) &&& (kn b)) hI.1) (cwV 1 hts gX0_commonHeads_X0_headsOf rfl rfl rfl (by decide +kernel) ⟨Nat.le_of_ble_eq_true rfl, Nat.le_of_ble_eq_true rfl⟩) (va_recv hK hP (ci := 0) (q0 := 0) rfl rfl) rfl hl.1 rfl (Nat.le_of_ble_eq_true rfl) dX0_commonHeads_24 ⟨Nat.zero_le _, Nat.zero_le _⟩ ?_
  exact W.lret hx hb hr (fun t9 ht9 _ => ⟨congrArg (fun z => Outcome.returned (some (Value.long z))) (by first | exact rfl), ht9⟩) (fun q h => nomatch h) dX0_commonHeads_27
set_option maxHeartbeats 4000000 in
set_option maxRecDepth 100000 in
theorem c_X0_critical (l : Launch) (D : va_G) (cI cJ : ClassId) (q : Nat → Nat) (n : Nat) (mk lt tg : Nat → Int32) (pa an la kn : Nat → Int64) (fb : Int32) (fh nb te wt bh : Nat → Int32) (a : Nat) (hI : Inv n lt tg an kn) (ha : a < 4) : eg_MR D (tyL cI cJ) l yX0_critical wsX0_critical ({ frames := 4, cells := 0, slots := 0, locals := 87 }) [.ref (q 0), .int (nI a)] (wX q cI cJ (nI n) mk lt tg pa an la kn fb fh nb te wt bh) (some (.long (cO an la (kn a) n))) := by
  refine Met.ofW (cc := cX0_critical) (maxL := 2) (ret := (some .long)) (by decide) rfl ?_
  intro p e s m args below meth c s₁ B hml hv
  obtain ⟨rfl, hP, hK⟩ := hv
  have hx := B.exec
  have hb := B.bytes
  have hr := B.returns
  have hts := atoms_spec (ws := wsX0_critical) B.pre
  have hown : s.vm.findClass RX0 = some m.cls := findClass_of_methodNamed B.named
  have hlocks := B.notSynchronized
  have hin : ∀ w ∈ u_ws RX0 TX0 14, w ∈ wsX0_critical := by decide +kernel
  have hl := lv_entry ([.ref (q 0), .int (nI a)]) (n := 2) (Nat.le_of_ble_eq_true rfl)
  rw [lg_entry_eq]
  generalize (lg_sl ([.ref (q 0), .int (nI a)]) ++ List.replicate (2 - (lg_sl ([.ref (q 0), .int (nI a)])).length) Slot.unset).toArray = ls at hl ⊢
  have hl : lv_has ls 2 [(0, .ref (q 0)), (1, .int (nI a))] := hl
  refine lv_aload_n hx hb dX0_critical_0 rfl (lv_at hl 0 rfl) ?_
  refine lv_iload_n hx hb dX0_critical_1 rfl (lv_at hl 1 rfl) ?_
  refine eg_callV (As := [.int (nI a)]) (rest := []) hx hb hml hown hts hK hP (c_X0_checkAuthor l D cI cJ q n mk lt tg pa an la kn fb fh nb te wt bh a (by omega)) (cwV 1 hts gX0_critical_X0_checkAuthor rfl rfl rfl (by decide +kernel) ⟨Nat.le_of_ble_eq_true rfl, Nat.le_of_ble_eq_true rfl⟩) (va_recv hK hP (ci := 0) (q0 := 0) rfl rfl) rfl hl.1 rfl (Nat.le_of_ble_eq_true rfl) dX0_critical_2 ⟨Nat.zero_le _, Nat.zero_le _⟩ ?_
  refine lv_aload_n hx hb dX0_critical_5 rfl (lv_at hl 0 rfl) ?_
  refine lv_aload_n hx hb dX0_critical_6 rfl (lv_at hl 0 rfl) ?_
  refine va_get (D := D) (ci := 0) (v := .ref (q 7)) (C := RX0) (T := TX0) (N := 14) hx hb hts hin hown hK hP 0 rfl rfl 7 (by decide) (hts (.fieldLink RX0 33 "EditGraph" "knownSets" "[J") (by decide +kernel)) (fun _ h9 => h9) rfl dX0_critical_7 ?_
  refine lv_iload_n hx hb dX0_critical_10 rfl (lv_at hl 1 rfl) ?_
  refine eg_lald hx hb hK hP 7 1 rfl rfl (by omega) (by decide) dX0_critical_11 ?_
  refine eg_callV (As := [.long (kn a)]) (rest := []) hx hb hml hown hts hK hP (c_X0_criticalOf l D cI cJ q n mk lt tg pa an la kn fb fh nb te wt bh (kn a) hI.1) (cwV 1 hts gX0_critical_X0_criticalOf rfl rfl rfl (by decide +kernel) ⟨Nat.le_of_ble_eq_true rfl, Nat.le_of_ble_eq_true rfl⟩) (va_recv hK hP (ci := 0) (q0 := 0) rfl rfl) rfl hl.1 rfl (Nat.le_of_ble_eq_true rfl) dX0_critical_12 ⟨Nat.zero_le _, Nat.zero_le _⟩ ?_
  exact W.lret hx hb hr (fun t9 ht9 _ => ⟨congrArg (fun z => Outcome.returned (some (Value.long z))) (by first | exact rfl), ht9⟩) (fun q h => nomatch h) dX0_critical_15
end
section
-- the class's texts and counts (by gen.py, specD.py)
set_option maxHeartbeats 4000000 in
set_option maxRecDepth 100000 in
theorem c_X0_learn (l : Launch) (D : va_G) (cI cJ : ClassId) (q : Nat → Nat) (n : Nat) (mk lt tg : Nat → Int32) (pa an la kn : Nat → Int64) (fb : Int32) (fh nb te wt bh : Nat → Int32) (a : Nat) (b : Nat) (ha : a < 4) (hb4 : b < 4) : eg_MW D (tyL cI cJ) l yX0_learn wsX0_learn ({ frames := 2, cells := 0, slots := 0, locals := 45 }) 0 0 [.ref (q 0), .int (nI a), .int (nI b)] (wX q cI cJ (nI n) mk lt tg pa an la kn fb fh nb te wt bh) (fun r w1 => r = some (.int (nI (pc64 (kn b &&& (kn a ^^^ (-1)))))) ∧ w1 = wX q cI cJ (nI n) mk lt tg pa an la (vp_updL kn a (kn a ||| kn b)) fb fh nb te wt bh) := by
  refine Met.ofW (cc := cX0_learn) (maxL := 3) (ret := (some .int)) (by decide) rfl ?_
  intro p e s m args below meth c s₁ B hml hv
  obtain ⟨rfl, hP, hK, hD0⟩ := hv
  have hx := B.exec
  have hb := B.bytes
  have hr := B.returns
  have hts := atoms_spec (ws := wsX0_learn) B.pre
  have hown : s.vm.findClass RX0 = some m.cls := findClass_of_methodNamed B.named
  have hlocks := B.notSynchronized
  have hD := eg_D_of hD0
  have hS : va_S (eg_A (wX q cI cJ (nI n) mk lt tg pa an la kn fb fh nb te wt bh)) s.heap s.heap [] := va_S.rf
  have hin : ∀ w ∈ u_ws RX0 TX0 14, w ∈ wsX0_learn := by decide +kernel
  have hl := lv_entry ([.ref (q 0), .int (nI a), .int (nI b)]) (n := 3) (Nat.le_of_ble_eq_true rfl)
  rw [lg_entry_eq]
  generalize (lg_sl ([.ref (q 0), .int (nI a), .int (nI b)]) ++ List.replicate (3 - (lg_sl ([.ref (q 0), .int (nI a), .int (nI b)])).length) Slot.unset).toArray = ls at hl ⊢
  have hl : lv_has ls 3 [(0, .ref (q 0)), (1, .int (nI a)), (2, .int (nI b))] := hl
  generalize h0H : s.heap = H at hP ⊢
  have hS : va_S (eg_A (wX q cI cJ (nI n) mk lt tg pa an la kn fb fh nb te wt bh)) s.heap H [] := by rw [← h0H]; exact hS
  generalize ([] : List Loc) = locs at hS ⊢
  refine lv_aload_n hx hb dX0_learn_0 rfl (lv_at hl 0 rfl) ?_
  refine lv_iload_n hx hb dX0_learn_1 rfl (lv_at hl 1 rfl) ?_
  refine eg_callV (As := [.int (nI a)]) (rest := []) hx hb hml hown hts hK hP (c_X0_checkAuthor l D cI cJ q n mk lt tg pa an la kn fb fh nb te wt bh a (by omega)) (cwV 1 hts gX0_learn_X0_checkAuthor rfl rfl rfl (by decide +kernel) ⟨Nat.le_of_ble_eq_true rfl, Nat.le_of_ble_eq_true rfl⟩) (va_recv hK hP (ci := 0) (q0 := 0) rfl rfl) rfl hl.1 rfl (Nat.le_of_ble_eq_true rfl) dX0_learn_2 ⟨Nat.zero_le _, Nat.zero_le _⟩ ?_
  refine lv_aload_n hx hb dX0_learn_5 rfl (lv_at hl 0 rfl) ?_
  refine lv_iload_n hx hb dX0_learn_6 rfl (lv_at hl 2 rfl) ?_
  refine eg_callV (As := [.int (nI b)]) (rest := []) hx hb hml hown hts hK hP (c_X0_checkAuthor l D cI cJ q n mk lt tg pa an la kn fb fh nb te wt bh b (by omega)) (cwV 1 hts gX0_learn_X0_checkAuthor rfl rfl rfl (by decide +kernel) ⟨Nat.le_of_ble_eq_true rfl, Nat.le_of_ble_eq_true rfl⟩) (va_recv hK hP (ci := 0) (q0 := 0) rfl rfl) rfl hl.1 rfl (Nat.le_of_ble_eq_true rfl) dX0_learn_7 ⟨Nat.zero_le _, Nat.zero_le _⟩ ?_
  refine lv_aload_n hx hb dX0_learn_10 rfl (lv_at hl 0 rfl) ?_
  refine lv_iload_n hx hb dX0_learn_11 rfl (lv_at hl 1 rfl) ?_
  refine lv_aload_n hx hb dX0_learn_12 rfl (lv_at hl 0 rfl) ?_
  refine va_get (D := D) (ci := 0) (v := .ref (q 7)) (C := RX0) (T := TX0) (N := 14) hx hb hts hin hown hK hP 0 rfl rfl 7 (by decide) (hts (.fieldLink RX0 33 "EditGraph" "knownSets" "[J") (by decide +kernel)) (fun _ h9 => h9) rfl dX0_learn_13 ?_
  refine lv_iload_n hx hb dX0_learn_16 rfl (lv_at hl 2 rfl) ?_
  refine eg_lald hx hb hK hP 7 1 rfl rfl (by omega) (by decide) dX0_learn_17 ?_
  refine eg_callWV (As := [.int (nI a), .long (kn b)]) (rest := []) hx hb hml hown hts hK hP hD rfl hS (c_X0_addKnown l D cI cJ q n mk lt tg pa an la kn fb fh nb te wt bh a (kn b) ha) (cwV 2 hts gX0_learn_X0_addKnown rfl rfl rfl (by decide +kernel) ⟨Nat.le_of_ble_eq_true rfl, Nat.le_of_ble_eq_true rfl⟩) (va_recv hK hP (ci := 0) (q0 := 0) rfl rfl) rfl hl.1 rfl (Nat.le_of_ble_eq_true rfl) dX0_learn_18 ⟨Nat.zero_le _, Nat.zero_le _⟩ (fun v9 w9 H locs hR9 hw9 hP hS => ?_)
  obtain ⟨rfl, rfl⟩ := hR9
  exact W.iret hx hb hr (fun t9 ht9 _ => ⟨some (.int (nI (pc64 (kn b &&& (kn a ^^^ (-1)))))), (wX q cI cJ (nI n) mk lt tg pa an la (vp_updL kn a (kn a ||| kn b)) fb fh nb te wt bh), rfl, ⟨rfl, rfl⟩, rfl, by rw [ht9]; exact hP, hS.F ht9⟩) hS.2.2 dX0_learn_21
set_option maxHeartbeats 4000000 in
set_option maxRecDepth 100000 in
theorem c_X0_learnEvent (l : Launch) (D : va_G) (cI cJ : ClassId) (q : Nat → Nat) (n : Nat) (mk lt tg : Nat → Int32) (pa an la kn : Nat → Int64) (fb : Int32) (fh nb te wt bh : Nat → Int32) (a : Nat) (e0 : Nat) (hI : Inv n lt tg an kn) (ha : a < 4) (he : e0 < n) : eg_MW D (tyL cI cJ) l yX0_learnEvent wsX0_learnEvent ({ frames := 2, cells := 0, slots := 0, locals := 45 }) 0 0 [.ref (q 0), .int (nI a), .int (nI e0)] (wX q cI cJ (nI n) mk lt tg pa an la kn fb fh nb te wt bh) (fun r w1 => r = some (.int (nI (pc64 ((an e0 ||| ol e0) &&& (kn a ^^^ (-1)))))) ∧ w1 = wX q cI cJ (nI n) mk lt tg pa an la (vp_updL kn a (kn a ||| (an e0 ||| ol e0))) fb fh nb te wt bh) := by
  have hI1 := hI.1
  refine Met.ofW (cc := cX0_learnEvent) (maxL := 3) (ret := (some .int)) (by decide) rfl ?_
  intro p e s m args below meth c s₁ B hml hv
  obtain ⟨rfl, hP, hK, hD0⟩ := hv
  have hx := B.exec
  have hb := B.bytes
  have hr := B.returns
  have hts := atoms_spec (ws := wsX0_learnEvent) B.pre
  have hown : s.vm.findClass RX0 = some m.cls := findClass_of_methodNamed B.named
  have hlocks := B.notSynchronized
  have hD := eg_D_of hD0
  have hS : va_S (eg_A (wX q cI cJ (nI n) mk lt tg pa an la kn fb fh nb te wt bh)) s.heap s.heap [] := va_S.rf
  have hl := lv_entry ([.ref (q 0), .int (nI a), .int (nI e0)]) (n := 3) (Nat.le_of_ble_eq_true rfl)
  rw [lg_entry_eq]
  generalize (lg_sl ([.ref (q 0), .int (nI a), .int (nI e0)]) ++ List.replicate (3 - (lg_sl ([.ref (q 0), .int (nI a), .int (nI e0)])).length) Slot.unset).toArray = ls at hl ⊢
  have hl : lv_has ls 3 [(0, .ref (q 0)), (1, .int (nI a)), (2, .int (nI e0))] := hl
  generalize h0H : s.heap = H at hP ⊢
  have hS : va_S (eg_A (wX q cI cJ (nI n) mk lt tg pa an la kn fb fh nb te wt bh)) s.heap H [] := by rw [← h0H]; exact hS
  generalize ([] : List Loc) = locs at hS ⊢
  refine lv_aload_n hx hb dX0_learnEvent_0 rfl (lv_at hl 0 rfl) ?_
  refine lv_iload_n hx hb dX0_learnEvent_1 rfl (lv_at hl 1 rfl) ?_
  refine eg_callV (As := [.int (nI a)]) (rest := []) hx hb hml hown hts hK hP (c_X0_checkAuthor l D cI cJ q n mk lt tg pa an la kn fb fh nb te wt bh a (by omega)) (cwV 1 hts gX0_learnEvent_X0_checkAuthor rfl rfl rfl (by decide +kernel) ⟨Nat.le_of_ble_eq_true rfl, Nat.le_of_ble_eq_true rfl⟩) (va_recv hK hP (ci := 0) (q0 := 0) rfl rfl) rfl hl.1 rfl (Nat.le_of_ble_eq_true rfl) dX0_learnEvent_2 ⟨Nat.zero_le _, Nat.zero_le _⟩ ?_
  refine lv_aload_n hx hb dX0_learnEvent_5 rfl (lv_at hl 0 rfl) ?_
  refine lv_iload_n hx hb dX0_learnEvent_6 rfl (lv_at hl 2 rfl) ?_
  refine eg_callV (As := [.int (nI e0)]) (rest := []) hx hb hml hown hts hK hP (c_X0_checkEvent l D cI cJ q n mk lt tg pa an la kn fb fh nb te wt bh e0 hI.1 (by omega)) (cwV 1 hts gX0_learnEvent_X0_checkEvent rfl rfl rfl (by decide +kernel) ⟨Nat.le_of_ble_eq_true rfl, Nat.le_of_ble_eq_true rfl⟩) (va_recv hK hP (ci := 0) (q0 := 0) rfl rfl) rfl hl.1 rfl (Nat.le_of_ble_eq_true rfl) dX0_learnEvent_7 ⟨Nat.zero_le _, Nat.zero_le _⟩ ?_
  refine lv_aload_n hx hb dX0_learnEvent_10 rfl (lv_at hl 0 rfl) ?_
  refine lv_iload_n hx hb dX0_learnEvent_11 rfl (lv_at hl 1 rfl) ?_
  refine lv_aload_n hx hb dX0_learnEvent_12 rfl (lv_at hl 0 rfl) ?_
  refine lv_iload_n hx hb dX0_learnEvent_13 rfl (lv_at hl 2 rfl) ?_
  refine eg_callV (As := [.int (nI e0)]) (rest := [.int (nI a), .ref (q 0)]) hx hb hml hown hts hK hP (c_X0_versionOfEvent l D cI cJ q n mk lt tg pa an la kn fb fh nb te wt bh e0 (by omega)) (cwV 1 hts gX0_learnEvent_X0_versionOfEvent rfl rfl rfl (by decide +kernel) ⟨Nat.le_of_ble_eq_true rfl, Nat.le_of_ble_eq_true rfl⟩) (va_recv hK hP (ci := 0) (q0 := 0) rfl rfl) rfl hl.1 rfl (Nat.le_of_ble_eq_true rfl) dX0_learnEvent_14 ⟨Nat.zero_le _, Nat.zero_le _⟩ ?_
  refine eg_callWV (As := [.int (nI a), .long (an e0 ||| ol e0)]) (rest := []) hx hb hml hown hts hK hP hD rfl hS (c_X0_addKnown l D cI cJ q n mk lt tg pa an la kn fb fh nb te wt bh a (an e0 ||| ol e0) ha) (cwV 2 hts gX0_learnEvent_X0_addKnown rfl rfl rfl (by decide +kernel) ⟨Nat.le_of_ble_eq_true rfl, Nat.le_of_ble_eq_true rfl⟩) (va_recv hK hP (ci := 0) (q0 := 0) rfl rfl) rfl hl.1 rfl (Nat.le_of_ble_eq_true rfl) dX0_learnEvent_17 ⟨Nat.zero_le _, Nat.zero_le _⟩ (fun v9 w9 H locs hR9 hw9 hP hS => ?_)
  obtain ⟨rfl, rfl⟩ := hR9
  exact W.iret hx hb hr (fun t9 ht9 _ => ⟨some (.int (nI (pc64 ((an e0 ||| ol e0) &&& (kn a ^^^ (-1)))))), (wX q cI cJ (nI n) mk lt tg pa an la (vp_updL kn a (kn a ||| (an e0 ||| ol e0))) fb fh nb te wt bh), rfl, ⟨rfl, rfl⟩, rfl, by rw [ht9]; exact hP, hS.F ht9⟩) hS.2.2 dX0_learnEvent_20
set_option maxHeartbeats 4000000 in
set_option maxRecDepth 100000 in
theorem c_X0_length (l : Launch) (D : va_G) (cI cJ : ClassId) (q : Nat → Nat) (n : Nat) (mk lt tg : Nat → Int32) (pa an la kn : Nat → Int64) (fb : Int32) (fh nb te wt bh : Nat → Int32) (a : Nat) (hI : Inv n lt tg an kn) (htr : ∃ f, Tr n fh nb f fb (lay (ins lt) tg n)) (ha : a < 4) : eg_MW D (tyL cI cJ) l yX0_length wsX0_length ({ frames := 4, cells := 0, slots := 0, locals := 97 }) 0 0 [.ref (q 0), .int (nI a)] (wX q cI cJ (nI n) mk lt tg pa an la kn fb fh nb te wt bh) (fun r w1 => ∃ (te' wt' : Nat → Int32), r = some (.int (nI (tx n lt tg (kn a)).length)) ∧ w1 = wX q cI cJ (nI n) mk lt tg pa an la kn fb fh nb te' wt' bh) := by
  refine Met.ofW (cc := cX0_length) (maxL := 2) (ret := (some .int)) (by decide) rfl ?_
  intro p e s m args below meth c s₁ B hml hv
  obtain ⟨rfl, hP, hK, hD0⟩ := hv
  have hx := B.exec
  have hb := B.bytes
  have hr := B.returns
  have hts := atoms_spec (ws := wsX0_length) B.pre
  have hown : s.vm.findClass RX0 = some m.cls := findClass_of_methodNamed B.named
  have hlocks := B.notSynchronized
  have hD := eg_D_of hD0
  have hS : va_S (eg_A (wX q cI cJ (nI n) mk lt tg pa an la kn fb fh nb te wt bh)) s.heap s.heap [] := va_S.rf
  have hin : ∀ w ∈ u_ws RX0 TX0 14, w ∈ wsX0_length := by decide +kernel
  have hl := lv_entry ([.ref (q 0), .int (nI a)]) (n := 2) (Nat.le_of_ble_eq_true rfl)
  rw [lg_entry_eq]
  generalize (lg_sl ([.ref (q 0), .int (nI a)]) ++ List.replicate (2 - (lg_sl ([.ref (q 0), .int (nI a)])).length) Slot.unset).toArray = ls at hl ⊢
  have hl : lv_has ls 2 [(0, .ref (q 0)), (1, .int (nI a))] := hl
  generalize h0H : s.heap = H at hP ⊢
  have hS : va_S (eg_A (wX q cI cJ (nI n) mk lt tg pa an la kn fb fh nb te wt bh)) s.heap H [] := by rw [← h0H]; exact hS
  generalize ([] : List Loc) = locs at hS ⊢
  refine lv_aload_n hx hb dX0_length_0 rfl (lv_at hl 0 rfl) ?_
  refine lv_iload_n hx hb dX0_length_1 rfl (lv_at hl 1 rfl) ?_
  refine eg_callV (As := [.int (nI a)]) (rest := []) hx hb hml hown hts hK hP (c_X0_checkAuthor l D cI cJ q n mk lt tg pa an la kn fb fh nb te wt bh a (by omega)) (cwV 1 hts gX0_length_X0_checkAuthor rfl rfl rfl (by decide +kernel) ⟨Nat.le_of_ble_eq_true rfl, Nat.le_of_ble_eq_true rfl⟩) (va_recv hK hP (ci := 0) (q0 := 0) rfl rfl) rfl hl.1 rfl (Nat.le_of_ble_eq_true rfl) dX0_length_2 ⟨Nat.zero_le _, Nat.zero_le _⟩ ?_
  refine lv_aload_n hx hb dX0_length_5 rfl (lv_at hl 0 rfl) ?_
  refine lv_aload_n hx hb dX0_length_6 rfl (lv_at hl 0 rfl) ?_
  refine va_get (D := D) (ci := 0) (v := .ref (q 7)) (C := RX0) (T := TX0) (N := 14) hx hb hts hin hown hK hP 0 rfl rfl 7 (by decide) (hts (.fieldLink RX0 33 "EditGraph" "knownSets" "[J") (by decide +kernel)) (fun _ h9 => h9) rfl dX0_length_7 ?_
  refine lv_iload_n hx hb dX0_length_10 rfl (lv_at hl 1 rfl) ?_
  refine eg_lald hx hb hK hP 7 1 rfl rfl (by omega) (by decide) dX0_length_11 ?_
  have e9 := tx_all hI (hI.vk ha)
  refine eg_callWV (As := [.long (kn a)]) (rest := []) hx hb hml hown hts hK hP hD rfl hS (c_X0_findText l D cI cJ q n mk lt tg pa an la kn fb fh nb te wt bh (kn a) (lay (ins lt) tg n) hI.1 hI.hdl htr (Nat.le_trans (lay_len n (lay_nodup (Nat.le_trans hI.1 (by decide)) hI.hangA)) hI.1)) (cwV 1 hts gX0_length_X0_findText rfl rfl rfl (by decide +kernel) ⟨Nat.le_of_ble_eq_true rfl, Nat.le_of_ble_eq_true rfl⟩) (va_recv hK hP (ci := 0) (q0 := 0) rfl rfl) rfl hl.1 rfl (Nat.le_of_ble_eq_true rfl) dX0_length_12 ⟨Nat.zero_le _, Nat.zero_le _⟩ (fun v9 w9 H locs hR9 hw9 hP hS => ?_)
  obtain ⟨te1, wt1, rfl, rfl, hh1⟩ := hR9
  rw [e9] at hh1 ⊢
  have hT9 := tx_len hI (hI.vk ha)
  have hI1 := hI.1
  exact W.iret hx hb hr (fun t9 ht9 _ => ⟨some (.int (nI ((tx n lt tg (kn a)).length))), (wX q cI cJ (nI n) mk lt tg pa an la kn fb fh nb te1 wt1 bh), rfl, ⟨te1, wt1, rfl, rfl⟩, rfl, by rw [ht9]; exact hP, hS.F ht9⟩) hS.2.2 dX0_length_15
set_option maxHeartbeats 4000000 in
set_option maxRecDepth 100000 in
theorem c_X0_lengthOf (l : Launch) (D : va_G) (cI cJ : ClassId) (q : Nat → Nat) (n : Nat) (mk lt tg : Nat → Int32) (pa an la kn : Nat → Int64) (fb : Int32) (fh nb te wt bh : Nat → Int32) (e0 : Nat) (hI : Inv n lt tg an kn) (htr : ∃ f, Tr n fh nb f fb (lay (ins lt) tg n)) (he : e0 < n) : eg_MW D (tyL cI cJ) l yX0_lengthOf wsX0_lengthOf ({ frames := 4, cells := 0, slots := 0, locals := 97 }) 0 0 [.ref (q 0), .int (nI e0)] (wX q cI cJ (nI n) mk lt tg pa an la kn fb fh nb te wt bh) (fun r w1 => ∃ (te' wt' : Nat → Int32), r = some (.int (nI (tx n lt tg (an e0 ||| ol e0)).length)) ∧ w1 = wX q cI cJ (nI n) mk lt tg pa an la kn fb fh nb te' wt' bh) := by
  have hI1 := hI.1
  refine Met.ofW (cc := cX0_lengthOf) (maxL := 2) (ret := (some .int)) (by decide) rfl ?_
  intro p e s m args below meth c s₁ B hml hv
  obtain ⟨rfl, hP, hK, hD0⟩ := hv
  have hx := B.exec
  have hb := B.bytes
  have hr := B.returns
  have hts := atoms_spec (ws := wsX0_lengthOf) B.pre
  have hown : s.vm.findClass RX0 = some m.cls := findClass_of_methodNamed B.named
  have hlocks := B.notSynchronized
  have hD := eg_D_of hD0
  have hS : va_S (eg_A (wX q cI cJ (nI n) mk lt tg pa an la kn fb fh nb te wt bh)) s.heap s.heap [] := va_S.rf
  have hl := lv_entry ([.ref (q 0), .int (nI e0)]) (n := 2) (Nat.le_of_ble_eq_true rfl)
  rw [lg_entry_eq]
  generalize (lg_sl ([.ref (q 0), .int (nI e0)]) ++ List.replicate (2 - (lg_sl ([.ref (q 0), .int (nI e0)])).length) Slot.unset).toArray = ls at hl ⊢
  have hl : lv_has ls 2 [(0, .ref (q 0)), (1, .int (nI e0))] := hl
  generalize h0H : s.heap = H at hP ⊢
  have hS : va_S (eg_A (wX q cI cJ (nI n) mk lt tg pa an la kn fb fh nb te wt bh)) s.heap H [] := by rw [← h0H]; exact hS
  generalize ([] : List Loc) = locs at hS ⊢
  refine lv_aload_n hx hb dX0_lengthOf_0 rfl (lv_at hl 0 rfl) ?_
  refine lv_iload_n hx hb dX0_lengthOf_1 rfl (lv_at hl 1 rfl) ?_
  refine eg_callV (As := [.int (nI e0)]) (rest := []) hx hb hml hown hts hK hP (c_X0_checkEvent l D cI cJ q n mk lt tg pa an la kn fb fh nb te wt bh e0 hI.1 (by omega)) (cwV 1 hts gX0_lengthOf_X0_checkEvent rfl rfl rfl (by decide +kernel) ⟨Nat.le_of_ble_eq_true rfl, Nat.le_of_ble_eq_true rfl⟩) (va_recv hK hP (ci := 0) (q0 := 0) rfl rfl) rfl hl.1 rfl (Nat.le_of_ble_eq_true rfl) dX0_lengthOf_2 ⟨Nat.zero_le _, Nat.zero_le _⟩ ?_
  refine lv_aload_n hx hb dX0_lengthOf_5 rfl (lv_at hl 0 rfl) ?_
  refine lv_aload_n hx hb dX0_lengthOf_6 rfl (lv_at hl 0 rfl) ?_
  refine lv_iload_n hx hb dX0_lengthOf_7 rfl (lv_at hl 1 rfl) ?_
  refine eg_callV (As := [.int (nI e0)]) (rest := [.ref (q 0)]) hx hb hml hown hts hK hP (c_X0_versionOfEvent l D cI cJ q n mk lt tg pa an la kn fb fh nb te wt bh e0 (by omega)) (cwV 1 hts gX0_lengthOf_X0_versionOfEvent rfl rfl rfl (by decide +kernel) ⟨Nat.le_of_ble_eq_true rfl, Nat.le_of_ble_eq_true rfl⟩) (va_recv hK hP (ci := 0) (q0 := 0) rfl rfl) rfl hl.1 rfl (Nat.le_of_ble_eq_true rfl) dX0_lengthOf_8 ⟨Nat.zero_le _, Nat.zero_le _⟩ ?_
  have e9 := tx_all hI (hI.ve he)
  refine eg_callWV (As := [.long (an e0 ||| ol e0)]) (rest := []) hx hb hml hown hts hK hP hD rfl hS (c_X0_findText l D cI cJ q n mk lt tg pa an la kn fb fh nb te wt bh (an e0 ||| ol e0) (lay (ins lt) tg n) hI.1 hI.hdl htr (Nat.le_trans (lay_len n (lay_nodup (Nat.le_trans hI.1 (by decide)) hI.hangA)) hI.1)) (cwV 1 hts gX0_lengthOf_X0_findText rfl rfl rfl (by decide +kernel) ⟨Nat.le_of_ble_eq_true rfl, Nat.le_of_ble_eq_true rfl⟩) (va_recv hK hP (ci := 0) (q0 := 0) rfl rfl) rfl hl.1 rfl (Nat.le_of_ble_eq_true rfl) dX0_lengthOf_11 ⟨Nat.zero_le _, Nat.zero_le _⟩ (fun v9 w9 H locs hR9 hw9 hP hS => ?_)
  obtain ⟨te1, wt1, rfl, rfl, hh1⟩ := hR9
  rw [e9] at hh1 ⊢
  have hT9 := tx_len hI (hI.ve he)
  have hI1 := hI.1
  exact W.iret hx hb hr (fun t9 ht9 _ => ⟨some (.int (nI ((tx n lt tg (an e0 ||| ol e0)).length))), (wX q cI cJ (nI n) mk lt tg pa an la kn fb fh nb te1 wt1 bh), rfl, ⟨te1, wt1, rfl, rfl⟩, rfl, by rw [ht9]; exact hP, hS.F ht9⟩) hS.2.2 dX0_lengthOf_14
set_option maxHeartbeats 4000000 in
set_option maxRecDepth 100000 in
theorem c_X0_letterAt (l : Launch) (D : va_G) (cI cJ : ClassId) (q : Nat → Nat) (n : Nat) (mk lt tg : Nat → Int32) (pa an la kn : Nat → Int64) (fb : Int32) (fh nb te wt bh : Nat → Int32) (a : Nat) (pp : Nat) (hI : Inv n lt tg an kn) (htr : ∃ f, Tr n fh nb f fb (lay (ins lt) tg n)) (ha : a < 4) (hp : pp < (tx n lt tg (kn a)).length) : eg_MW D (tyL cI cJ) l yX0_letterAt wsX0_letterAt ({ frames := 5, cells := 0, slots := 0, locals := 121 }) 0 0 [.ref (q 0), .int (nI a), .int (nI pp)] (wX q cI cJ (nI n) mk lt tg pa an la kn fb fh nb te wt bh) (fun r w1 => ∃ (te' wt' : Nat → Int32) (x : Nat), (tx n lt tg (kn a))[pp]? = some x ∧ r = some (.int (lt x)) ∧ w1 = wX q cI cJ (nI n) mk lt tg pa an la kn fb fh nb te' wt' bh) := by
  refine Met.ofW (cc := cX0_letterAt) (maxL := 3) (ret := (some .int)) (by decide) rfl ?_
  intro p e s m args below meth c s₁ B hml hv
  obtain ⟨rfl, hP, hK, hD0⟩ := hv
  have hx := B.exec
  have hb := B.bytes
  have hr := B.returns
  have hts := atoms_spec (ws := wsX0_letterAt) B.pre
  have hown : s.vm.findClass RX0 = some m.cls := findClass_of_methodNamed B.named
  have hlocks := B.notSynchronized
  have hD := eg_D_of hD0
  have hS : va_S (eg_A (wX q cI cJ (nI n) mk lt tg pa an la kn fb fh nb te wt bh)) s.heap s.heap [] := va_S.rf
  have hin : ∀ w ∈ u_ws RX0 TX0 14, w ∈ wsX0_letterAt := by decide +kernel
  have hl := lv_entry ([.ref (q 0), .int (nI a), .int (nI pp)]) (n := 3) (Nat.le_of_ble_eq_true rfl)
  rw [lg_entry_eq]
  generalize (lg_sl ([.ref (q 0), .int (nI a), .int (nI pp)]) ++ List.replicate (3 - (lg_sl ([.ref (q 0), .int (nI a), .int (nI pp)])).length) Slot.unset).toArray = ls at hl ⊢
  have hl : lv_has ls 3 [(0, .ref (q 0)), (1, .int (nI a)), (2, .int (nI pp))] := hl
  generalize h0H : s.heap = H at hP ⊢
  have hS : va_S (eg_A (wX q cI cJ (nI n) mk lt tg pa an la kn fb fh nb te wt bh)) s.heap H [] := by rw [← h0H]; exact hS
  generalize ([] : List Loc) = locs at hS ⊢
  refine lv_aload_n hx hb dX0_letterAt_0 rfl (lv_at hl 0 rfl) ?_
  refine lv_iload_n hx hb dX0_letterAt_1 rfl (lv_at hl 1 rfl) ?_
  refine eg_callV (As := [.int (nI a)]) (rest := []) hx hb hml hown hts hK hP (c_X0_checkAuthor l D cI cJ q n mk lt tg pa an la kn fb fh nb te wt bh a (by omega)) (cwV 1 hts gX0_letterAt_X0_checkAuthor rfl rfl rfl (by decide +kernel) ⟨Nat.le_of_ble_eq_true rfl, Nat.le_of_ble_eq_true rfl⟩) (va_recv hK hP (ci := 0) (q0 := 0) rfl rfl) rfl hl.1 rfl (Nat.le_of_ble_eq_true rfl) dX0_letterAt_2 ⟨Nat.zero_le _, Nat.zero_le _⟩ ?_
  refine lv_aload_n hx hb dX0_letterAt_5 rfl (lv_at hl 0 rfl) ?_
  refine va_get (D := D) (ci := 0) (v := .ref (q 2)) (C := RX0) (T := TX0) (N := 14) hx hb hts hin hown hK hP 0 rfl rfl 2 (by decide) (hts (.fieldLink RX0 17 "EditGraph" "letters" "[I") (by decide +kernel)) (fun _ h9 => h9) rfl dX0_letterAt_6 ?_
  refine lv_aload_n hx hb dX0_letterAt_9 rfl (lv_at hl 0 rfl) ?_
  refine lv_aload_n hx hb dX0_letterAt_10 rfl (lv_at hl 0 rfl) ?_
  refine va_get (D := D) (ci := 0) (v := .ref (q 7)) (C := RX0) (T := TX0) (N := 14) hx hb hts hin hown hK hP 0 rfl rfl 7 (by decide) (hts (.fieldLink RX0 33 "EditGraph" "knownSets" "[J") (by decide +kernel)) (fun _ h9 => h9) rfl dX0_letterAt_11 ?_
  refine lv_iload_n hx hb dX0_letterAt_14 rfl (lv_at hl 1 rfl) ?_
  refine eg_lald hx hb hK hP 7 1 rfl rfl (by omega) (by decide) dX0_letterAt_15 ?_
  refine lv_iload_n hx hb dX0_letterAt_16 rfl (lv_at hl 2 rfl) ?_
  refine eg_callWV (As := [.long (kn a), .int (nI pp)]) (rest := [.ref (q 2)]) hx hb hml hown hts hK hP hD rfl hS (c_X0_eventInText l D cI cJ q n mk lt tg pa an la kn fb fh nb te wt bh (kn a) pp hI htr (hI.vk ha) hp) (cwV 2 hts gX0_letterAt_X0_eventInText rfl rfl rfl (by decide +kernel) ⟨Nat.le_of_ble_eq_true rfl, Nat.le_of_ble_eq_true rfl⟩) (va_recv hK hP (ci := 0) (q0 := 0) rfl rfl) rfl hl.1 rfl (Nat.le_of_ble_eq_true rfl) dX0_letterAt_17 ⟨Nat.zero_le _, Nat.zero_le _⟩ (fun v9 w9 H locs hR9 hw9 hP hS => ?_)
  obtain ⟨te1, wt1, x9, hx9, rfl, rfl⟩ := hR9
  have hI1 := hI.1
  have hxn := (tx_mem (List.mem_of_getElem? hx9)).1
  refine eg_iald hx hb hK hP 2 0 rfl rfl (by omega) (by decide) dX0_letterAt_20 ?_
  exact W.iret hx hb hr (fun t9 ht9 _ => ⟨some (.int (lt x9)), (wX q cI cJ (nI n) mk lt tg pa an la kn fb fh nb te1 wt1 bh), rfl, ⟨te1, wt1, x9, hx9, rfl, rfl⟩, rfl, by rw [ht9]; exact hP, hS.F ht9⟩) hS.2.2 dX0_letterAt_21
set_option maxHeartbeats 4000000 in
set_option maxRecDepth 100000 in
theorem c_X0_eventAt (l : Launch) (D : va_G) (cI cJ : ClassId) (q : Nat → Nat) (n : Nat) (mk lt tg : Nat → Int32) (pa an la kn : Nat → Int64) (fb : Int32) (fh nb te wt bh : Nat → Int32) (a : Nat) (pp : Nat) (hI : Inv n lt tg an kn) (htr : ∃ f, Tr n fh nb f fb (lay (ins lt) tg n)) (ha : a < 4) (hp : pp < (tx n lt tg (kn a)).length) : eg_MW D (tyL cI cJ) l yX0_eventAt wsX0_eventAt ({ frames := 5, cells := 0, slots := 0, locals := 121 }) 0 0 [.ref (q 0), .int (nI a), .int (nI pp)] (wX q cI cJ (nI n) mk lt tg pa an la kn fb fh nb te wt bh) (fun r w1 => ∃ (te' wt' : Nat → Int32) (x : Nat), (tx n lt tg (kn a))[pp]? = some x ∧ r = some (.int (nI x)) ∧ w1 = wX q cI cJ (nI n) mk lt tg pa an la kn fb fh nb te' wt' bh) := by
  refine Met.ofW (cc := cX0_eventAt) (maxL := 3) (ret := (some .int)) (by decide) rfl ?_
  intro p e s m args below meth c s₁ B hml hv
  obtain ⟨rfl, hP, hK, hD0⟩ := hv
  have hx := B.exec
  have hb := B.bytes
  have hr := B.returns
  have hts := atoms_spec (ws := wsX0_eventAt) B.pre
  have hown : s.vm.findClass RX0 = some m.cls := findClass_of_methodNamed B.named
  have hlocks := B.notSynchronized
  have hD := eg_D_of hD0
  have hS : va_S (eg_A (wX q cI cJ (nI n) mk lt tg pa an la kn fb fh nb te wt bh)) s.heap s.heap [] := va_S.rf
  have hin : ∀ w ∈ u_ws RX0 TX0 14, w ∈ wsX0_eventAt := by decide +kernel
  have hl := lv_entry ([.ref (q 0), .int (nI a), .int (nI pp)]) (n := 3) (Nat.le_of_ble_eq_true rfl)
  rw [lg_entry_eq]
  generalize (lg_sl ([.ref (q 0), .int (nI a), .int (nI pp)]) ++ List.replicate (3 - (lg_sl ([.ref (q 0), .int (nI a), .int (nI pp)])).length) Slot.unset).toArray = ls at hl ⊢
  have hl : lv_has ls 3 [(0, .ref (q 0)), (1, .int (nI a)), (2, .int (nI pp))] := hl
  generalize h0H : s.heap = H at hP ⊢
  have hS : va_S (eg_A (wX q cI cJ (nI n) mk lt tg pa an la kn fb fh nb te wt bh)) s.heap H [] := by rw [← h0H]; exact hS
  generalize ([] : List Loc) = locs at hS ⊢
  refine lv_aload_n hx hb dX0_eventAt_0 rfl (lv_at hl 0 rfl) ?_
  refine lv_iload_n hx hb dX0_eventAt_1 rfl (lv_at hl 1 rfl) ?_
  refine eg_callV (As := [.int (nI a)]) (rest := []) hx hb hml hown hts hK hP (c_X0_checkAuthor l D cI cJ q n mk lt tg pa an la kn fb fh nb te wt bh a (by omega)) (cwV 1 hts gX0_eventAt_X0_checkAuthor rfl rfl rfl (by decide +kernel) ⟨Nat.le_of_ble_eq_true rfl, Nat.le_of_ble_eq_true rfl⟩) (va_recv hK hP (ci := 0) (q0 := 0) rfl rfl) rfl hl.1 rfl (Nat.le_of_ble_eq_true rfl) dX0_eventAt_2 ⟨Nat.zero_le _, Nat.zero_le _⟩ ?_
  refine lv_aload_n hx hb dX0_eventAt_5 rfl (lv_at hl 0 rfl) ?_
  refine lv_aload_n hx hb dX0_eventAt_6 rfl (lv_at hl 0 rfl) ?_
  refine va_get (D := D) (ci := 0) (v := .ref (q 7)) (C := RX0) (T := TX0) (N := 14) hx hb hts hin hown hK hP 0 rfl rfl 7 (by decide) (hts (.fieldLink RX0 33 "EditGraph" "knownSets" "[J") (by decide +kernel)) (fun _ h9 => h9) rfl dX0_eventAt_7 ?_
  refine lv_iload_n hx hb dX0_eventAt_10 rfl (lv_at hl 1 rfl) ?_
  refine eg_lald hx hb hK hP 7 1 rfl rfl (by omega) (by decide) dX0_eventAt_11 ?_
  refine lv_iload_n hx hb dX0_eventAt_12 rfl (lv_at hl 2 rfl) ?_
  refine eg_callWV (As := [.long (kn a), .int (nI pp)]) (rest := []) hx hb hml hown hts hK hP hD rfl hS (c_X0_eventInText l D cI cJ q n mk lt tg pa an la kn fb fh nb te wt bh (kn a) pp hI htr (hI.vk ha) hp) (cwV 2 hts gX0_eventAt_X0_eventInText rfl rfl rfl (by decide +kernel) ⟨Nat.le_of_ble_eq_true rfl, Nat.le_of_ble_eq_true rfl⟩) (va_recv hK hP (ci := 0) (q0 := 0) rfl rfl) rfl hl.1 rfl (Nat.le_of_ble_eq_true rfl) dX0_eventAt_13 ⟨Nat.zero_le _, Nat.zero_le _⟩ (fun v9 w9 H locs hR9 hw9 hP hS => ?_)
  obtain ⟨te1, wt1, x9, hx9, rfl, rfl⟩ := hR9
  have hI1 := hI.1
  have hxn := (tx_mem (List.mem_of_getElem? hx9)).1
  exact W.iret hx hb hr (fun t9 ht9 _ => ⟨some (.int (nI x9)), (wX q cI cJ (nI n) mk lt tg pa an la kn fb fh nb te1 wt1 bh), rfl, ⟨te1, wt1, x9, hx9, rfl, rfl⟩, rfl, by rw [ht9]; exact hP, hS.F ht9⟩) hS.2.2 dX0_eventAt_16
set_option maxHeartbeats 4000000 in
set_option maxRecDepth 100000 in
theorem c_X0_letterOf (l : Launch) (D : va_G) (cI cJ : ClassId) (q : Nat → Nat) (n : Nat) (mk lt tg : Nat → Int32) (pa an la kn : Nat → Int64) (fb : Int32) (fh nb te wt bh : Nat → Int32) (e0 : Nat) (pp : Nat) (hI : Inv n lt tg an kn) (htr : ∃ f, Tr n fh nb f fb (lay (ins lt) tg n)) (he : e0 < n) (hp : pp < (tx n lt tg (an e0 ||| ol e0)).length) : eg_MW D (tyL cI cJ) l yX0_letterOf wsX0_letterOf ({ frames := 5, cells := 0, slots := 0, locals := 121 }) 0 0 [.ref (q 0), .int (nI e0), .int (nI pp)] (wX q cI cJ (nI n) mk lt tg pa an la kn fb fh nb te wt bh) (fun r w1 => ∃ (te' wt' : Nat → Int32) (x : Nat), (tx n lt tg (an e0 ||| ol e0))[pp]? = some x ∧ r = some (.int (lt x)) ∧ w1 = wX q cI cJ (nI n) mk lt tg pa an la kn fb fh nb te' wt' bh) := by
  have hI1 := hI.1
  refine Met.ofW (cc := cX0_letterOf) (maxL := 3) (ret := (some .int)) (by decide) rfl ?_
  intro p e s m args below meth c s₁ B hml hv
  obtain ⟨rfl, hP, hK, hD0⟩ := hv
  have hx := B.exec
  have hb := B.bytes
  have hr := B.returns
  have hts := atoms_spec (ws := wsX0_letterOf) B.pre
  have hown : s.vm.findClass RX0 = some m.cls := findClass_of_methodNamed B.named
  have hlocks := B.notSynchronized
  have hD := eg_D_of hD0
  have hS : va_S (eg_A (wX q cI cJ (nI n) mk lt tg pa an la kn fb fh nb te wt bh)) s.heap s.heap [] := va_S.rf
  have hin : ∀ w ∈ u_ws RX0 TX0 14, w ∈ wsX0_letterOf := by decide +kernel
  have hl := lv_entry ([.ref (q 0), .int (nI e0), .int (nI pp)]) (n := 3) (Nat.le_of_ble_eq_true rfl)
  rw [lg_entry_eq]
  generalize (lg_sl ([.ref (q 0), .int (nI e0), .int (nI pp)]) ++ List.replicate (3 - (lg_sl ([.ref (q 0), .int (nI e0), .int (nI pp)])).length) Slot.unset).toArray = ls at hl ⊢
  have hl : lv_has ls 3 [(0, .ref (q 0)), (1, .int (nI e0)), (2, .int (nI pp))] := hl
  generalize h0H : s.heap = H at hP ⊢
  have hS : va_S (eg_A (wX q cI cJ (nI n) mk lt tg pa an la kn fb fh nb te wt bh)) s.heap H [] := by rw [← h0H]; exact hS
  generalize ([] : List Loc) = locs at hS ⊢
  refine lv_aload_n hx hb dX0_letterOf_0 rfl (lv_at hl 0 rfl) ?_
  refine lv_iload_n hx hb dX0_letterOf_1 rfl (lv_at hl 1 rfl) ?_
  refine eg_callV (As := [.int (nI e0)]) (rest := []) hx hb hml hown hts hK hP (c_X0_checkEvent l D cI cJ q n mk lt tg pa an la kn fb fh nb te wt bh e0 hI.1 (by omega)) (cwV 1 hts gX0_letterOf_X0_checkEvent rfl rfl rfl (by decide +kernel) ⟨Nat.le_of_ble_eq_true rfl, Nat.le_of_ble_eq_true rfl⟩) (va_recv hK hP (ci := 0) (q0 := 0) rfl rfl) rfl hl.1 rfl (Nat.le_of_ble_eq_true rfl) dX0_letterOf_2 ⟨Nat.zero_le _, Nat.zero_le _⟩ ?_
  refine lv_aload_n hx hb dX0_letterOf_5 rfl (lv_at hl 0 rfl) ?_
  refine va_get (D := D) (ci := 0) (v := .ref (q 2)) (C := RX0) (T := TX0) (N := 14) hx hb hts hin hown hK hP 0 rfl rfl 2 (by decide) (hts (.fieldLink RX0 17 "EditGraph" "letters" "[I") (by decide +kernel)) (fun _ h9 => h9) rfl dX0_letterOf_6 ?_
  refine lv_aload_n hx hb dX0_letterOf_9 rfl (lv_at hl 0 rfl) ?_
  refine lv_aload_n hx hb dX0_letterOf_10 rfl (lv_at hl 0 rfl) ?_
  refine lv_iload_n hx hb dX0_letterOf_11 rfl (lv_at hl 1 rfl) ?_
  refine eg_callV (As := [.int (nI e0)]) (rest := [.ref (q 0), .ref (q 2)]) hx hb hml hown hts hK hP (c_X0_versionOfEvent l D cI cJ q n mk lt tg pa an la kn fb fh nb te wt bh e0 (by omega)) (cwV 1 hts gX0_letterOf_X0_versionOfEvent rfl rfl rfl (by decide +kernel) ⟨Nat.le_of_ble_eq_true rfl, Nat.le_of_ble_eq_true rfl⟩) (va_recv hK hP (ci := 0) (q0 := 0) rfl rfl) rfl hl.1 rfl (Nat.le_of_ble_eq_true rfl) dX0_letterOf_12 ⟨Nat.zero_le _, Nat.zero_le _⟩ ?_
  refine lv_iload_n hx hb dX0_letterOf_15 rfl (lv_at hl 2 rfl) ?_
  refine eg_callWV (As := [.long (an e0 ||| ol e0), .int (nI pp)]) (rest := [.ref (q 2)]) hx hb hml hown hts hK hP hD rfl hS (c_X0_eventInText l D cI cJ q n mk lt tg pa an la kn fb fh nb te wt bh (an e0 ||| ol e0) pp hI htr (hI.ve he) hp) (cwV 2 hts gX0_letterOf_X0_eventInText rfl rfl rfl (by decide +kernel) ⟨Nat.le_of_ble_eq_true rfl, Nat.le_of_ble_eq_true rfl⟩) (va_recv hK hP (ci := 0) (q0 := 0) rfl rfl) rfl hl.1 rfl (Nat.le_of_ble_eq_true rfl) dX0_letterOf_16 ⟨Nat.zero_le _, Nat.zero_le _⟩ (fun v9 w9 H locs hR9 hw9 hP hS => ?_)
  obtain ⟨te1, wt1, x9, hx9, rfl, rfl⟩ := hR9
  have hI1 := hI.1
  have hxn := (tx_mem (List.mem_of_getElem? hx9)).1
  refine eg_iald hx hb hK hP 2 0 rfl rfl (by omega) (by decide) dX0_letterOf_19 ?_
  exact W.iret hx hb hr (fun t9 ht9 _ => ⟨some (.int (lt x9)), (wX q cI cJ (nI n) mk lt tg pa an la kn fb fh nb te1 wt1 bh), rfl, ⟨te1, wt1, x9, hx9, rfl, rfl⟩, rfl, by rw [ht9]; exact hP, hS.F ht9⟩) hS.2.2 dX0_letterOf_20
set_option maxHeartbeats 4000000 in
set_option maxRecDepth 100000 in
theorem c_X0_letterByList (l : Launch) (D : va_G) (cI cJ : ClassId) (q : Nat → Nat) (n : Nat) (mk lt tg : Nat → Int32) (pa an la kn : Nat → Int64) (fb : Int32) (fh nb te wt bh : Nat → Int32) (a : Nat) (pp : Nat) (hI : Inv n lt tg an kn) (ha : a < 4) (hp : pp < (tx n lt tg (kn a)).length) : eg_MW D (tyL cI cJ) l yX0_letterByList wsX0_letterByList ({ frames := 4, cells := 0, slots := 0, locals := 96 }) 0 0 [.ref (q 0), .int (nI a), .int (nI pp)] (wX q cI cJ (nI n) mk lt tg pa an la kn fb fh nb te wt bh) (fun r w1 => ∃ (te' bh' : Nat → Int32) (x : Nat), (tx n lt tg (kn a))[pp]? = some x ∧ r = some (.int (lt x)) ∧ w1 = wX q cI cJ (nI n) mk lt tg pa an la kn fb fh nb te' wt bh') := by
  refine Met.ofW (cc := cX0_letterByList) (maxL := 4) (ret := (some .int)) (by decide) rfl ?_
  intro p e s m args below meth c s₁ B hml hv
  obtain ⟨rfl, hP, hK, hD0⟩ := hv
  have hx := B.exec
  have hb := B.bytes
  have hr := B.returns
  have hts := atoms_spec (ws := wsX0_letterByList) B.pre
  have hown : s.vm.findClass RX0 = some m.cls := findClass_of_methodNamed B.named
  have hlocks := B.notSynchronized
  have hD := eg_D_of hD0
  have hS : va_S (eg_A (wX q cI cJ (nI n) mk lt tg pa an la kn fb fh nb te wt bh)) s.heap s.heap [] := va_S.rf
  have hin : ∀ w ∈ u_ws RX0 TX0 14, w ∈ wsX0_letterByList := by decide +kernel
  have hl := lv_entry ([.ref (q 0), .int (nI a), .int (nI pp)]) (n := 4) (Nat.le_of_ble_eq_true rfl)
  rw [lg_entry_eq]
  generalize (lg_sl ([.ref (q 0), .int (nI a), .int (nI pp)]) ++ List.replicate (4 - (lg_sl ([.ref (q 0), .int (nI a), .int (nI pp)])).length) Slot.unset).toArray = ls at hl ⊢
  have hl : lv_has ls 4 [(0, .ref (q 0)), (1, .int (nI a)), (2, .int (nI pp))] := hl
  generalize h0H : s.heap = H at hP ⊢
  have hS : va_S (eg_A (wX q cI cJ (nI n) mk lt tg pa an la kn fb fh nb te wt bh)) s.heap H [] := by rw [← h0H]; exact hS
  generalize ([] : List Loc) = locs at hS ⊢
  refine lv_aload_n hx hb dX0_letterByList_0 rfl (lv_at hl 0 rfl) ?_
  refine lv_iload_n hx hb dX0_letterByList_1 rfl (lv_at hl 1 rfl) ?_
  refine eg_callV (As := [.int (nI a)]) (rest := []) hx hb hml hown hts hK hP (c_X0_checkAuthor l D cI cJ q n mk lt tg pa an la kn fb fh nb te wt bh a (by omega)) (cwV 1 hts gX0_letterByList_X0_checkAuthor rfl rfl rfl (by decide +kernel) ⟨Nat.le_of_ble_eq_true rfl, Nat.le_of_ble_eq_true rfl⟩) (va_recv hK hP (ci := 0) (q0 := 0) rfl rfl) rfl hl.1 rfl (Nat.le_of_ble_eq_true rfl) dX0_letterByList_2 ⟨Nat.zero_le _, Nat.zero_le _⟩ ?_
  refine lv_aload_n hx hb dX0_letterByList_5 rfl (lv_at hl 0 rfl) ?_
  refine lv_aload_n hx hb dX0_letterByList_6 rfl (lv_at hl 0 rfl) ?_
  refine va_get (D := D) (ci := 0) (v := .ref (q 7)) (C := RX0) (T := TX0) (N := 14) hx hb hts hin hown hK hP 0 rfl rfl 7 (by decide) (hts (.fieldLink RX0 33 "EditGraph" "knownSets" "[J") (by decide +kernel)) (fun _ h9 => h9) rfl dX0_letterByList_7 ?_
  refine lv_iload_n hx hb dX0_letterByList_10 rfl (lv_at hl 1 rfl) ?_
  refine eg_lald hx hb hK hP 7 1 rfl rfl (by omega) (by decide) dX0_letterByList_11 ?_
  have e9 := tx_list (v := kn a) hI
  refine eg_callWV (As := [.long (kn a)]) (rest := []) hx hb hml hown hts hK hP hD rfl hS (c_X0_findTextByList l D cI cJ q n mk lt tg pa an la kn fb fh nb te wt bh (kn a) hI.1 hI.hdl (hI.hangV (hI.vk ha))) (cwV 1 hts gX0_letterByList_X0_findTextByList rfl rfl rfl (by decide +kernel) ⟨Nat.le_of_ble_eq_true rfl, Nat.le_of_ble_eq_true rfl⟩) (va_recv hK hP (ci := 0) (q0 := 0) rfl rfl) rfl hl.1 rfl (Nat.le_of_ble_eq_true rfl) dX0_letterByList_12 ⟨Nat.zero_le _, Nat.zero_le _⟩ (fun v9 w9 H locs hR9 hw9 hP hS => ?_)
  obtain ⟨te1, bh1, rfl, rfl, hh1⟩ := hR9
  rw [e9] at hh1 ⊢
  have hT9 := tx_len hI (hI.vk ha)
  have hI1 := hI.1
  refine lv_istore_n (lv' := [(3, .int (nI ((tx n lt tg (kn a)).length))), (0, .ref (q 0)), (1, .int (nI a)), (2, .int (nI pp))]) hx hb dX0_letterByList_15 rfl hl (by decide) rfl (fun ls hl => ?_)
  refine lv_aload_n hx hb dX0_letterByList_16 rfl (lv_at hl 1 rfl) ?_
  refine lv_iload_n hx hb dX0_letterByList_17 rfl (lv_at hl 3 rfl) ?_
  refine lv_iload_n hx hb dX0_letterByList_18 rfl (lv_at hl 0 rfl) ?_
  refine eg_callV (As := [.int (nI pp), .int (nI ((tx n lt tg (kn a)).length))]) (rest := []) hx hb hml hown hts hK hP (c_X0_checkPlace l D cI cJ q n mk lt tg pa an la kn fb fh nb te1 wt bh1 pp ((tx n lt tg (kn a)).length) hp (by omega)) (cwV 2 hts gX0_letterByList_X0_checkPlace rfl rfl rfl (by decide +kernel) ⟨Nat.le_of_ble_eq_true rfl, Nat.le_of_ble_eq_true rfl⟩) (va_recv hK hP (ci := 0) (q0 := 0) rfl rfl) rfl hl.1 rfl (Nat.le_of_ble_eq_true rfl) dX0_letterByList_19 ⟨Nat.zero_le _, Nat.zero_le _⟩ ?_
  refine lv_aload_n hx hb dX0_letterByList_22 rfl (lv_at hl 1 rfl) ?_
  refine va_get (D := D) (ci := 0) (v := .ref (q 2)) (C := RX0) (T := TX0) (N := 14) hx hb hts hin hown hK hP 0 rfl rfl 2 (by decide) (hts (.fieldLink RX0 17 "EditGraph" "letters" "[I") (by decide +kernel)) (fun _ h9 => h9) rfl dX0_letterByList_23 ?_
  refine lv_aload_n hx hb dX0_letterByList_26 rfl (lv_at hl 1 rfl) ?_
  refine va_get (D := D) (ci := 0) (v := .ref (q 10)) (C := RX0) (T := TX0) (N := 14) hx hb hts hin hown hK hP 0 rfl rfl 11 (by decide) (hts (.fieldLink RX0 45 "EditGraph" "textEvents" "[I") (by decide +kernel)) (fun _ h9 => h9) rfl dX0_letterByList_27 ?_
  refine lv_iload_n hx hb dX0_letterByList_30 rfl (lv_at hl 3 rfl) ?_
  refine eg_iald hx hb hK hP 10 0 rfl rfl (by omega) (by decide) dX0_letterByList_31 ?_
  obtain ⟨x9, hx9⟩ := getq hp
  rw [hh1 _ _ hx9]
  have hxn := (tx_mem (List.mem_of_getElem? hx9)).1
  refine eg_iald hx hb hK hP 2 0 rfl rfl (by omega) (by decide) dX0_letterByList_32 ?_
  exact W.iret hx hb hr (fun t9 ht9 _ => ⟨some (.int (lt x9)), (wX q cI cJ (nI n) mk lt tg pa an la kn fb fh nb te1 wt bh1), rfl, ⟨te1, bh1, x9, hx9, rfl, rfl⟩, rfl, by rw [ht9]; exact hP, hS.F ht9⟩) hS.2.2 dX0_letterByList_33
set_option maxHeartbeats 4000000 in
set_option maxRecDepth 100000 in
theorem c_X0_lettersBy (l : Launch) (D : va_G) (cI cJ : ClassId) (q : Nat → Nat) (n : Nat) (mk lt tg : Nat → Int32) (pa an la kn : Nat → Int64) (fb : Int32) (fh nb te wt bh : Nat → Int32) (a : Nat) (b : Nat) (hI : Inv n lt tg an kn) (htr : ∃ f, Tr n fh nb f fb (lay (ins lt) tg n)) (ha : a < 4) (hb4 : b < 4) : eg_MW D (tyL cI cJ) l yX0_lettersBy wsX0_lettersBy ({ frames := 4, cells := 0, slots := 0, locals := 97 }) 0 0 [.ref (q 0), .int (nI a), .int (nI b)] (wX q cI cJ (nI n) mk lt tg pa an la kn fb fh nb te wt bh) (fun r w1 => ∃ (te' wt' : Nat → Int32), r = some (.int (nI (ct (fun j => decide (mk ((tx n lt tg (kn a)).getD j 0) = nI b)) (tx n lt tg (kn a)).length))) ∧ w1 = wX q cI cJ (nI n) mk lt tg pa an la kn fb fh nb te' wt' bh) := by
  refine Met.ofW (cc := cX0_lettersBy) (maxL := 6) (ret := (some .int)) (by decide) rfl ?_
  intro p e s m args below meth c s₁ B hml hv
  obtain ⟨rfl, hP, hK, hD0⟩ := hv
  have hx := B.exec
  have hb := B.bytes
  have hr := B.returns
  have hts := atoms_spec (ws := wsX0_lettersBy) B.pre
  have hown : s.vm.findClass RX0 = some m.cls := findClass_of_methodNamed B.named
  have hlocks := B.notSynchronized
  have hD := eg_D_of hD0
  have hS : va_S (eg_A (wX q cI cJ (nI n) mk lt tg pa an la kn fb fh nb te wt bh)) s.heap s.heap [] := va_S.rf
  have hin : ∀ w ∈ u_ws RX0 TX0 14, w ∈ wsX0_lettersBy := by decide +kernel
  have hl := lv_entry ([.ref (q 0), .int (nI a), .int (nI b)]) (n := 6) (Nat.le_of_ble_eq_true rfl)
  rw [lg_entry_eq]
  generalize (lg_sl ([.ref (q 0), .int (nI a), .int (nI b)]) ++ List.replicate (6 - (lg_sl ([.ref (q 0), .int (nI a), .int (nI b)])).length) Slot.unset).toArray = ls at hl ⊢
  have hl : lv_has ls 6 [(0, .ref (q 0)), (1, .int (nI a)), (2, .int (nI b))] := hl
  generalize h0H : s.heap = H at hP ⊢
  have hS : va_S (eg_A (wX q cI cJ (nI n) mk lt tg pa an la kn fb fh nb te wt bh)) s.heap H [] := by rw [← h0H]; exact hS
  generalize ([] : List Loc) = locs at hS ⊢
  refine lv_aload_n hx hb dX0_lettersBy_0 rfl (lv_at hl 0 rfl) ?_
  refine lv_iload_n hx hb dX0_lettersBy_1 rfl (lv_at hl 1 rfl) ?_
  refine eg_callV (As := [.int (nI a)]) (rest := []) hx hb hml hown hts hK hP (c_X0_checkAuthor l D cI cJ q n mk lt tg pa an la kn fb fh nb te wt bh a (by omega)) (cwV 1 hts gX0_lettersBy_X0_checkAuthor rfl rfl rfl (by decide +kernel) ⟨Nat.le_of_ble_eq_true rfl, Nat.le_of_ble_eq_true rfl⟩) (va_recv hK hP (ci := 0) (q0 := 0) rfl rfl) rfl hl.1 rfl (Nat.le_of_ble_eq_true rfl) dX0_lettersBy_2 ⟨Nat.zero_le _, Nat.zero_le _⟩ ?_
  refine lv_aload_n hx hb dX0_lettersBy_5 rfl (lv_at hl 0 rfl) ?_
  refine lv_iload_n hx hb dX0_lettersBy_6 rfl (lv_at hl 2 rfl) ?_
  refine eg_callV (As := [.int (nI b)]) (rest := []) hx hb hml hown hts hK hP (c_X0_checkAuthor l D cI cJ q n mk lt tg pa an la kn fb fh nb te wt bh b (by omega)) (cwV 1 hts gX0_lettersBy_X0_checkAuthor rfl rfl rfl (by decide +kernel) ⟨Nat.le_of_ble_eq_true rfl, Nat.le_of_ble_eq_true rfl⟩) (va_recv hK hP (ci := 0) (q0 := 0) rfl rfl) rfl hl.1 rfl (Nat.le_of_ble_eq_true rfl) dX0_lettersBy_7 ⟨Nat.zero_le _, Nat.zero_le _⟩ ?_
  refine lv_aload_n hx hb dX0_lettersBy_10 rfl (lv_at hl 0 rfl) ?_
  refine lv_aload_n hx hb dX0_lettersBy_11 rfl (lv_at hl 0 rfl) ?_
  refine va_get (D := D) (ci := 0) (v := .ref (q 7)) (C := RX0) (T := TX0) (N := 14) hx hb hts hin hown hK hP 0 rfl rfl 7 (by decide) (hts (.fieldLink RX0 33 "EditGraph" "knownSets" "[J") (by decide +kernel)) (fun _ h9 => h9) rfl dX0_lettersBy_12 ?_
  refine lv_iload_n hx hb dX0_lettersBy_15 rfl (lv_at hl 1 rfl) ?_
  refine eg_lald hx hb hK hP 7 1 rfl rfl (by omega) (by decide) dX0_lettersBy_16 ?_
  have e9 := tx_all hI (hI.vk ha)
  refine eg_callWV (As := [.long (kn a)]) (rest := []) hx hb hml hown hts hK hP hD rfl hS (c_X0_findText l D cI cJ q n mk lt tg pa an la kn fb fh nb te wt bh (kn a) (lay (ins lt) tg n) hI.1 hI.hdl htr (Nat.le_trans (lay_len n (lay_nodup (Nat.le_trans hI.1 (by decide)) hI.hangA)) hI.1)) (cwV 1 hts gX0_lettersBy_X0_findText rfl rfl rfl (by decide +kernel) ⟨Nat.le_of_ble_eq_true rfl, Nat.le_of_ble_eq_true rfl⟩) (va_recv hK hP (ci := 0) (q0 := 0) rfl rfl) rfl hl.1 rfl (Nat.le_of_ble_eq_true rfl) dX0_lettersBy_17 ⟨Nat.zero_le _, Nat.zero_le _⟩ (fun v9 w9 H locs hR9 hw9 hP hS => ?_)
  obtain ⟨te1, wt1, rfl, rfl, hh1⟩ := hR9
  rw [e9] at hh1 ⊢
  have hT9 := tx_len hI (hI.vk ha)
  have hI1 := hI.1
  refine lv_istore_n (lv' := [(3, .int (nI ((tx n lt tg (kn a)).length))), (0, .ref (q 0)), (1, .int (nI a)), (2, .int (nI b))]) hx hb dX0_lettersBy_20 rfl hl (by decide) rfl (fun ls hl => ?_)
  have loop : ∀ (f i : Nat) (H : Heap) (locs : List Loc) (ls : Array Slot), (tx n lt tg (kn a)).length < i + f → i ≤ (tx n lt tg (kn a)).length → va_P D vwCl (wX q cI cJ (nI n) mk lt tg pa an la kn fb fh nb te1 wt1 bh) H → va_S (eg_A (wX q cI cJ (nI n) mk lt tg pa an la kn fb fh nb te wt bh)) s.heap H locs → lv_has ls 6 [(0, .ref (q 0)), (1, .int (nI a)), (2, .int (nI b)), (3, .int (nI ((tx n lt tg (kn a)).length))), (4, .int (nI (ct (fun j => decide (mk ((tx n lt tg (kn a)).getD j 0) = nI b)) i))), (5, .int (nI i))] → W p l e (headSpec wsX0_lettersBy ({ frames := 4, cells := 0, slots := 0, locals := 97 })).room s m ([.ref (q 0), .int (nI a), .int (nI b)] : List Value).toArray below meth c H locs 0 0 (MQ below (eg_Wq D (wX q cI cJ (nI n) mk lt tg pa an la kn fb fh nb te wt bh) (fun r w1 => ∃ (te' wt' : Nat → Int32), r = some (.int (nI (ct (fun j => decide (mk ((tx n lt tg (kn a)).getD j 0) = nI b)) (tx n lt tg (kn a)).length))) ∧ w1 = wX q cI cJ (nI n) mk lt tg pa an la kn fb fh nb te' wt' bh)) ([.ref (q 0), .int (nI a), .int (nI b)] : List Value).toArray s 0 0 (eg_A (wX q cI cJ (nI n) mk lt tg pa an la kn fb fh nb te wt bh))) (F0 m 27 ls []) := by
    intro f
    induction f with
    | zero => intro i  H locs ls h1 h2 hP hS hl; omega
    | succ f ih =>
      intro i  H locs ls h1 h2 hP hS hl
      refine lv_iload hx hb dX0_lettersBy_27 (lv_at hl 5 rfl) ?_
      refine lv_iload_n hx hb dX0_lettersBy_29 rfl (lv_at hl 3 rfl) ?_
      refine eg_icmp_ge (tgt := 58) hx hb dX0_lettersBy_30 (by decide) (by omega) (by omega) (fun c30 => ?_) (fun c30 => ?_)
      · refine lv_iload hx hb dX0_lettersBy_58 (lv_at hl 4 rfl) ?_
        have ein : i = (tx n lt tg (kn a)).length := by omega
        exact W.iret hx hb hr (fun t9 ht9 _ => ⟨some (.int (nI (ct (fun j => decide (mk ((tx n lt tg (kn a)).getD j 0) = nI b)) i))), (wX q cI cJ (nI n) mk lt tg pa an la kn fb fh nb te1 wt1 bh), rfl, ⟨te1, wt1, by rw [ein], rfl⟩, rfl, by rw [ht9]; exact hP, hS.F ht9⟩) hS.2.2 dX0_lettersBy_60
      · refine lv_aload_n hx hb dX0_lettersBy_33 rfl (lv_at hl 0 rfl) ?_
        refine va_get (D := D) (ci := 0) (v := .ref (q 1)) (C := RX0) (T := TX0) (N := 14) hx hb hts hin hown hK hP 0 rfl rfl 1 (by decide) (hts (.fieldLink RX0 13 "EditGraph" "makers" "[I") (by decide +kernel)) (fun _ h9 => h9) rfl dX0_lettersBy_34 ?_
        refine lv_aload_n hx hb dX0_lettersBy_37 rfl (lv_at hl 0 rfl) ?_
        refine va_get (D := D) (ci := 0) (v := .ref (q 10)) (C := RX0) (T := TX0) (N := 14) hx hb hts hin hown hK hP 0 rfl rfl 11 (by decide) (hts (.fieldLink RX0 45 "EditGraph" "textEvents" "[I") (by decide +kernel)) (fun _ h9 => h9) rfl dX0_lettersBy_38 ?_
        refine lv_iload hx hb dX0_lettersBy_41 (lv_at hl 5 rfl) ?_
        refine eg_iald hx hb hK hP 10 0 rfl rfl (by omega) (by decide) dX0_lettersBy_43 ?_
        obtain ⟨x9, hx9⟩ := getq c30
        rw [hh1 _ _ hx9]
        have hxn := (tx_mem (List.mem_of_getElem? hx9)).1
        refine eg_iald hx hb hK hP 1 0 rfl rfl (by omega) (by decide) dX0_lettersBy_44 ?_
        refine lv_iload_n hx hb dX0_lettersBy_45 rfl (lv_at hl 2 rfl) ?_
        refine lv_icmp_ne (tgt := 52) hx hb dX0_lettersBy_46 (by decide) (fun c46 => ?_) (fun c46 => ?_)
        · refine lv_iinc (v := nI (i + 1)) (lv' := [(5, .int (nI (i + 1))), (0, .ref (q 0)), (1, .int (nI a)), (2, .int (nI b)), (3, .int (nI ((tx n lt tg (kn a)).length))), (4, .int (nI (ct (fun j => decide (mk ((tx n lt tg (kn a)).getD j 0) = nI b)) i)))]) hx hb dX0_lettersBy_52 hl (k := 5) rfl (eg_inc1 _) (by decide) rfl (fun ls hl => ?_)
          refine lv_goto (tgt := 27) hx hb dX0_lettersBy_55 (by decide) ?_
          have eA : ct (fun j => decide (mk ((tx n lt tg (kn a)).getD j 0) = nI b)) (i + 1) = ct (fun j => decide (mk ((tx n lt tg (kn a)).getD j 0) = nI b)) i := by
            have g1 : (tx n lt tg (kn a)).getD i 0 = x9 := by rw [List.getD_eq_getElem?_getD, hx9]; rfl
            show ct (fun j => decide (mk ((tx n lt tg (kn a)).getD j 0) = nI b)) i + (if decide (mk ((tx n lt tg (kn a)).getD i 0) = nI b) = true then 1 else 0) = _
            rw [g1]
            simp [c46]
          exact ih (i + 1) H locs _ (by omega) (by omega) hP hS (by rw [eA]; exact lv_sub hl [1, 2, 3, 4, 5, 0] rfl)
        · refine lv_iinc (v := nI (ct (fun j => decide (mk ((tx n lt tg (kn a)).getD j 0) = nI b)) i + 1)) (lv' := [(4, .int (nI (ct (fun j => decide (mk ((tx n lt tg (kn a)).getD j 0) = nI b)) i + 1))), (0, .ref (q 0)), (1, .int (nI a)), (2, .int (nI b)), (3, .int (nI ((tx n lt tg (kn a)).length))), (5, .int (nI i))]) hx hb dX0_lettersBy_49 hl (k := 4) rfl (eg_inc1 _) (by decide) rfl (fun ls hl => ?_)
          refine lv_iinc (v := nI (i + 1)) (lv' := [(5, .int (nI (i + 1))), (4, .int (nI (ct (fun j => decide (mk ((tx n lt tg (kn a)).getD j 0) = nI b)) i + 1))), (0, .ref (q 0)), (1, .int (nI a)), (2, .int (nI b)), (3, .int (nI ((tx n lt tg (kn a)).length)))]) hx hb dX0_lettersBy_52 hl (k := 5) rfl (eg_inc1 _) (by decide) rfl (fun ls hl => ?_)
          refine lv_goto (tgt := 27) hx hb dX0_lettersBy_55 (by decide) ?_
          have eA : ct (fun j => decide (mk ((tx n lt tg (kn a)).getD j 0) = nI b)) (i + 1) = ct (fun j => decide (mk ((tx n lt tg (kn a)).getD j 0) = nI b)) i + 1 := by
            have g1 : (tx n lt tg (kn a)).getD i 0 = x9 := by rw [List.getD_eq_getElem?_getD, hx9]; rfl
            show ct (fun j => decide (mk ((tx n lt tg (kn a)).getD j 0) = nI b)) i + (if decide (mk ((tx n lt tg (kn a)).getD i 0) = nI b) = true then 1 else 0) = _
            rw [g1]
            simp [c46]
          exact ih (i + 1) H locs _ (by omega) (by omega) hP hS (by rw [eA]; exact lv_sub hl [2, 3, 4, 5, 1, 0] rfl)
  refine lv_iconst (v := nI 0) hx hb dX0_lettersBy_21 (by decide +kernel) ?_
  refine lv_istore (lv' := [(4, .int (nI 0)), (3, .int (nI ((tx n lt tg (kn a)).length))), (0, .ref (q 0)), (1, .int (nI a)), (2, .int (nI b))]) hx hb dX0_lettersBy_22 hl (by decide) rfl (fun ls hl => ?_)
  refine lv_iconst (v := nI 0) hx hb dX0_lettersBy_24 (by decide +kernel) ?_
  refine lv_istore (lv' := [(5, .int (nI 0)), (4, .int (nI 0)), (3, .int (nI ((tx n lt tg (kn a)).length))), (0, .ref (q 0)), (1, .int (nI a)), (2, .int (nI b))]) hx hb dX0_lettersBy_25 hl (by decide) rfl (fun ls hl => ?_)
  exact loop ((tx n lt tg (kn a)).length + 1) 0 H locs _ (by omega) (by omega) hP hS (lv_sub hl [3, 4, 5, 2, 1, 0] rfl)
set_option maxHeartbeats 4000000 in
set_option maxRecDepth 100000 in
theorem c_X0_concurrent (l : Launch) (D : va_G) (cI cJ : ClassId) (q : Nat → Nat) (n : Nat) (mk lt tg : Nat → Int32) (pa an la kn : Nat → Int64) (fb : Int32) (fh nb te wt bh : Nat → Int32) (a : Nat) (hI : Inv n lt tg an kn) (ha : a < 4) : eg_MR D (tyL cI cJ) l yX0_concurrent wsX0_concurrent ({ frames := 3, cells := 0, slots := 0, locals := 62 }) [.ref (q 0), .int (nI a)] (wX q cI cJ (nI n) mk lt tg pa an la kn fb fh nb te wt bh) (some (.int (nI (cnX an la (kn a) n / 2)))) := by
  have hI1 := hI.1
  refine Met.ofW (cc := cX0_concurrent) (maxL := 6) (ret := (some .int)) (by decide) rfl ?_
  intro p e s m args below meth c s₁ B hml hv
  obtain ⟨rfl, hP, hK⟩ := hv
  have hx := B.exec
  have hb := B.bytes
  have hr := B.returns
  have hts := atoms_spec (ws := wsX0_concurrent) B.pre
  have hown : s.vm.findClass RX0 = some m.cls := findClass_of_methodNamed B.named
  have hlocks := B.notSynchronized
  have hin : ∀ w ∈ u_ws RX0 TX0 14, w ∈ wsX0_concurrent := by decide +kernel
  have hl := lv_entry ([.ref (q 0), .int (nI a)]) (n := 6) (Nat.le_of_ble_eq_true rfl)
  rw [lg_entry_eq]
  generalize (lg_sl ([.ref (q 0), .int (nI a)]) ++ List.replicate (6 - (lg_sl ([.ref (q 0), .int (nI a)])).length) Slot.unset).toArray = ls at hl ⊢
  have hl : lv_has ls 6 [(0, .ref (q 0)), (1, .int (nI a))] := hl
  have loop : ∀ (f i : Nat) (ls : Array Slot), n < i + f → i ≤ n → lv_has ls 6 [(0, .ref (q 0)), (1, .int (nI a)), (2, .long (kn a)), (4, .int (nI (cnX an la (kn a) i))), (5, .int (nI i))] → W p l e (headSpec wsX0_concurrent ({ frames := 3, cells := 0, slots := 0, locals := 62 })).room s m ([.ref (q 0), .int (nI a)] : List Value).toArray below meth c s.heap [] 0 0 (MQ below (eg_R (some (.int (nI (cnX an la (kn a) n / 2))))) ([.ref (q 0), .int (nI a)] : List Value).toArray s 0 0 (fun _ => False)) (F0 m 18 ls []) := by
    intro f
    induction f with
    | zero => intro i  ls h1 h2 hl; omega
    | succ f ih =>
      intro i  ls h1 h2 hl
      refine lv_iload hx hb dX0_concurrent_18 (lv_at hl 4 rfl) ?_
      refine lv_aload_n hx hb dX0_concurrent_20 rfl (lv_at hl 0 rfl) ?_
      refine va_get (D := D) (ci := 0) (v := .int (nI n)) (C := RX0) (T := TX0) (N := 14) hx hb hts hin hown hK hP 0 rfl rfl 0 (by decide) (hts (.fieldLink RX0 7 "EditGraph" "eventCount" "I") (by decide +kernel)) (fun _ h9 => h9) rfl dX0_concurrent_21 ?_
      refine eg_icmp_ge (tgt := 62) hx hb dX0_concurrent_24 (by decide) (by omega) (by omega) (fun c24 => ?_) (fun c24 => ?_)
      · refine lv_iload hx hb dX0_concurrent_62 (lv_at hl 3 rfl) ?_
        refine lv_iconst (v := nI 1) hx hb dX0_concurrent_64 (by decide +kernel) ?_
        refine lv_ishr hx hb dX0_concurrent_65 ?_
        exact W.iret hx hb hr (fun t9 ht9 _ => ⟨congrArg (fun z => Outcome.returned (some (Value.int z))) (by first | (rw [show n = i by omega]; exact half (by have := cnX_le an la (kn a) i; omega); done)), ht9⟩) (fun q h => nomatch h) dX0_concurrent_66
      · refine lv_lload_n hx hb dX0_concurrent_27 rfl (lv_at hl 2 rfl) ?_
        refine lv_iload hx hb dX0_concurrent_28 (lv_at hl 4 rfl) ?_
        refine eg_callS (As := [.long (kn a), .int (nI i)]) (rest := []) hx hb hml hown hts hK (c_X0_has l D cI cJ (kn a) i (by omega)) (va_cwS 2 hts gX0_concurrent_X0_has rfl rfl rfl (by decide +kernel) ⟨Nat.le_of_ble_eq_true rfl, Nat.le_of_ble_eq_true rfl⟩) rfl hl.1 rfl (Nat.le_of_ble_eq_true rfl) dX0_concurrent_30 ⟨Nat.zero_le _, Nat.zero_le _⟩ ?_
        refine eg_ifeq_b (tgt := 56) hx hb dX0_concurrent_33 (by decide) (fun c33 => ?_) (fun c33 => ?_)
        · refine lv_iinc (v := nI (i + 1)) (lv' := [(5, .int (nI (i + 1))), (0, .ref (q 0)), (1, .int (nI a)), (2, .long (kn a)), (4, .int (nI (cnX an la (kn a) i)))]) hx hb dX0_concurrent_56 hl (k := 4) rfl (eg_inc1 _) (by decide) rfl (fun ls hl => ?_)
          refine lv_goto (tgt := 18) hx hb dX0_concurrent_59 (by decide) ?_
          have eA0 : cnX an la (kn a) (i + 1) = cnX an la (kn a) i := by first | (rw [cnX, if_pos c33]; done) | (rw [cnX, if_neg (by simp [c33])]; done)
          exact ih (i + 1) _ (by omega) (by omega) (by rw [eA0]; exact lv_sub hl [1, 2, 3, 4, 0] rfl)
        · refine lv_iload hx hb dX0_concurrent_36 (lv_at hl 3 rfl) ?_
          refine lv_lload_n hx hb dX0_concurrent_38 rfl (lv_at hl 2 rfl) ?_
          refine lv_aload_n hx hb dX0_concurrent_39 rfl (lv_at hl 0 rfl) ?_
          refine lv_iload hx hb dX0_concurrent_40 (lv_at hl 4 rfl) ?_
          refine eg_callV (As := [.int (nI i)]) (rest := [.long (kn a), .int (nI (cnX an la (kn a) i))]) hx hb hml hown hts hK hP (c_X0_relatedTo l D cI cJ q n mk lt tg pa an la kn fb fh nb te wt bh i (by omega)) (cwV 1 hts gX0_concurrent_X0_relatedTo rfl rfl rfl (by decide +kernel) ⟨Nat.le_of_ble_eq_true rfl, Nat.le_of_ble_eq_true rfl⟩) (va_recv hK hP (ci := 0) (q0 := 0) rfl rfl) rfl hl.1 rfl (Nat.le_of_ble_eq_true rfl) dX0_concurrent_42 ⟨Nat.zero_le _, Nat.zero_le _⟩ ?_
          refine lv_ldc2 hx hb hown (hts (.constantLong RX0 112 (-1)) (by decide +kernel)) dX0_concurrent_45 ?_
          refine lv_lxor hx hb dX0_concurrent_48 ?_
          refine lv_land hx hb dX0_concurrent_49 ?_
          refine eg_callS (As := [.long ((kn a) &&& ((rel an la i) ^^^ (-1)))]) (rest := [.int (nI (cnX an la (kn a) i))]) hx hb hml hown hts hK (c_J13_bitCount_95d88 l D cI cJ ((kn a) &&& ((rel an la i) ^^^ (-1))) ) (va_cwS 1 hts gX0_concurrent_J13_bitCount_95d88 rfl rfl rfl (by decide +kernel) ⟨Nat.le_of_ble_eq_true rfl, Nat.le_of_ble_eq_true rfl⟩) rfl hl.1 rfl (Nat.le_of_ble_eq_true rfl) dX0_concurrent_50 ⟨Nat.zero_le _, Nat.zero_le _⟩ ?_
          refine eg_iadd hx hb dX0_concurrent_53 ?_
          refine lv_istore (lv' := [(4, .int (nI (cnX an la (kn a) i + pc64 ((kn a) &&& ((rel an la i) ^^^ (-1)))))), (0, .ref (q 0)), (1, .int (nI a)), (2, .long (kn a)), (5, .int (nI i))]) hx hb dX0_concurrent_54 hl (by decide) rfl (fun ls hl => ?_)
          refine lv_iinc (v := nI (i + 1)) (lv' := [(5, .int (nI (i + 1))), (4, .int (nI (cnX an la (kn a) i + pc64 ((kn a) &&& ((rel an la i) ^^^ (-1)))))), (0, .ref (q 0)), (1, .int (nI a)), (2, .long (kn a))]) hx hb dX0_concurrent_56 hl (k := 4) rfl (eg_inc1 _) (by decide) rfl (fun ls hl => ?_)
          refine lv_goto (tgt := 18) hx hb dX0_concurrent_59 (by decide) ?_
          have eA0 : cnX an la (kn a) (i + 1) = cnX an la (kn a) i + pc64 ((kn a) &&& ((rel an la i) ^^^ (-1))) := by first | (rw [cnX, if_pos c33]; done) | (rw [cnX, if_neg (by simp [c33])]; done)
          exact ih (i + 1) _ (by omega) (by omega) (by rw [eA0]; exact lv_sub hl [2, 3, 4, 1, 0] rfl)
  refine lv_aload_n hx hb dX0_concurrent_0 rfl (lv_at hl 0 rfl) ?_
  refine lv_iload_n hx hb dX0_concurrent_1 rfl (lv_at hl 1 rfl) ?_
  refine eg_callV (As := [.int (nI a)]) (rest := []) hx hb hml hown hts hK hP (c_X0_checkAuthor l D cI cJ q n mk lt tg pa an la kn fb fh nb te wt bh a (by omega)) (cwV 1 hts gX0_concurrent_X0_checkAuthor rfl rfl rfl (by decide +kernel) ⟨Nat.le_of_ble_eq_true rfl, Nat.le_of_ble_eq_true rfl⟩) (va_recv hK hP (ci := 0) (q0 := 0) rfl rfl) rfl hl.1 rfl (Nat.le_of_ble_eq_true rfl) dX0_concurrent_2 ⟨Nat.zero_le _, Nat.zero_le _⟩ ?_
  refine lv_aload_n hx hb dX0_concurrent_5 rfl (lv_at hl 0 rfl) ?_
  refine va_get (D := D) (ci := 0) (v := .ref (q 7)) (C := RX0) (T := TX0) (N := 14) hx hb hts hin hown hK hP 0 rfl rfl 7 (by decide) (hts (.fieldLink RX0 33 "EditGraph" "knownSets" "[J") (by decide +kernel)) (fun _ h9 => h9) rfl dX0_concurrent_6 ?_
  refine lv_iload_n hx hb dX0_concurrent_9 rfl (lv_at hl 1 rfl) ?_
  refine eg_lald hx hb hK hP 7 1 rfl rfl (by omega) (by decide) dX0_concurrent_10 ?_
  refine lv_lstore_n (lv' := [(2, .long (kn a)), (0, .ref (q 0)), (1, .int (nI a))]) hx hb dX0_concurrent_11 rfl hl (by decide) rfl (fun ls hl => ?_)
  refine lv_iconst (v := nI 0) hx hb dX0_concurrent_12 (by decide +kernel) ?_
  refine lv_istore (lv' := [(4, .int (nI 0)), (2, .long (kn a)), (0, .ref (q 0)), (1, .int (nI a))]) hx hb dX0_concurrent_13 hl (by decide) rfl (fun ls hl => ?_)
  refine lv_iconst (v := nI 0) hx hb dX0_concurrent_15 (by decide +kernel) ?_
  refine lv_istore (lv' := [(5, .int (nI 0)), (4, .int (nI 0)), (2, .long (kn a)), (0, .ref (q 0)), (1, .int (nI a))]) hx hb dX0_concurrent_16 hl (by decide) rfl (fun ls hl => ?_)
  exact loop (n + 1) 0 _ (by omega) (by omega) (lv_sub hl [3, 4, 2, 1, 0] rfl)
set_option maxHeartbeats 4000000 in
set_option maxRecDepth 100000 in
theorem c_X0_toReplay (l : Launch) (D : va_G) (cI cJ : ClassId) (q : Nat → Nat) (n : Nat) (mk lt tg : Nat → Int32) (pa an la kn : Nat → Int64) (fb : Int32) (fh nb te wt bh : Nat → Int32) (a : Nat) (hI : Inv n lt tg an kn) (ha : a < 4) : eg_MR D (tyL cI cJ) l yX0_toReplay wsX0_toReplay ({ frames := 4, cells := 0, slots := 0, locals := 87 }) [.ref (q 0), .int (nI a)] (wX q cI cJ (nI n) mk lt tg pa an la kn fb fh nb te wt bh) (some (.int (nI (pc64 (kn a &&& (tpX an (cO an la (kn a) n) n ^^^ (-1))))))) := by
  have hI1 := hI.1
  refine Met.ofW (cc := cX0_toReplay) (maxL := 9) (ret := (some .int)) (by decide) rfl ?_
  intro p e s m args below meth c s₁ B hml hv
  obtain ⟨rfl, hP, hK⟩ := hv
  have hx := B.exec
  have hb := B.bytes
  have hr := B.returns
  have hts := atoms_spec (ws := wsX0_toReplay) B.pre
  have hown : s.vm.findClass RX0 = some m.cls := findClass_of_methodNamed B.named
  have hlocks := B.notSynchronized
  have hin : ∀ w ∈ u_ws RX0 TX0 14, w ∈ wsX0_toReplay := by decide +kernel
  have hl := lv_entry ([.ref (q 0), .int (nI a)]) (n := 9) (Nat.le_of_ble_eq_true rfl)
  rw [lg_entry_eq]
  generalize (lg_sl ([.ref (q 0), .int (nI a)]) ++ List.replicate (9 - (lg_sl ([.ref (q 0), .int (nI a)])).length) Slot.unset).toArray = ls at hl ⊢
  have hl : lv_has ls 9 [(0, .ref (q 0)), (1, .int (nI a))] := hl
  have loop : ∀ (f i : Nat) (ls : Array Slot), n < i + f → i ≤ n → lv_has ls 9 [(0, .ref (q 0)), (1, .int (nI a)), (2, .long (kn a)), (4, .long (cO an la (kn a) n)), (6, .long (tpX an (cO an la (kn a) n) i)), (8, .int (nI i))] → W p l e (headSpec wsX0_toReplay ({ frames := 4, cells := 0, slots := 0, locals := 87 })).room s m ([.ref (q 0), .int (nI a)] : List Value).toArray below meth c s.heap [] 0 0 (MQ below (eg_R (some (.int (nI (pc64 (kn a &&& (tpX an (cO an la (kn a) n) n ^^^ (-1)))))))) ([.ref (q 0), .int (nI a)] : List Value).toArray s 0 0 (fun _ => False)) (F0 m 25 ls []) := by
    intro f
    induction f with
    | zero => intro i  ls h1 h2 hl; omega
    | succ f ih =>
      intro i  ls h1 h2 hl
      refine lv_iload hx hb dX0_toReplay_25 (lv_at hl 5 rfl) ?_
      refine lv_aload_n hx hb dX0_toReplay_27 rfl (lv_at hl 0 rfl) ?_
      refine va_get (D := D) (ci := 0) (v := .int (nI n)) (C := RX0) (T := TX0) (N := 14) hx hb hts hin hown hK hP 0 rfl rfl 0 (by decide) (hts (.fieldLink RX0 7 "EditGraph" "eventCount" "I") (by decide +kernel)) (fun _ h9 => h9) rfl dX0_toReplay_28 ?_
      refine eg_icmp_ge (tgt := 58) hx hb dX0_toReplay_31 (by decide) (by omega) (by omega) (fun c31 => ?_) (fun c31 => ?_)
      · refine lv_lload_n hx hb dX0_toReplay_58 rfl (lv_at hl 2 rfl) ?_
        refine lv_lload hx hb dX0_toReplay_59 (lv_at hl 4 rfl) ?_
        refine lv_ldc2 hx hb hown (hts (.constantLong RX0 112 (-1)) (by decide +kernel)) dX0_toReplay_61 ?_
        refine lv_lxor hx hb dX0_toReplay_64 ?_
        refine lv_land hx hb dX0_toReplay_65 ?_
        refine eg_callS (As := [.long ((kn a) &&& ((tpX an (cO an la (kn a) n) i) ^^^ (-1)))]) (rest := []) hx hb hml hown hts hK (c_J13_bitCount_95d88 l D cI cJ ((kn a) &&& ((tpX an (cO an la (kn a) n) i) ^^^ (-1))) ) (va_cwS 1 hts gX0_toReplay_J13_bitCount_95d88 rfl rfl rfl (by decide +kernel) ⟨Nat.le_of_ble_eq_true rfl, Nat.le_of_ble_eq_true rfl⟩) rfl hl.1 rfl (Nat.le_of_ble_eq_true rfl) dX0_toReplay_66 ⟨Nat.zero_le _, Nat.zero_le _⟩ ?_
        exact W.iret hx hb hr (fun t9 ht9 _ => ⟨congrArg (fun z => Outcome.returned (some (Value.int z))) (by first | (rw [show i = n by omega]; done)), ht9⟩) (fun q h => nomatch h) dX0_toReplay_69
      · refine lv_lload hx hb dX0_toReplay_34 (lv_at hl 3 rfl) ?_
        refine lv_iload hx hb dX0_toReplay_36 (lv_at hl 5 rfl) ?_
        refine eg_callS (As := [.long (cO an la (kn a) n), .int (nI i)]) (rest := []) hx hb hml hown hts hK (c_X0_has l D cI cJ (cO an la (kn a) n) i (by omega)) (va_cwS 2 hts gX0_toReplay_X0_has rfl rfl rfl (by decide +kernel) ⟨Nat.le_of_ble_eq_true rfl, Nat.le_of_ble_eq_true rfl⟩) rfl hl.1 rfl (Nat.le_of_ble_eq_true rfl) dX0_toReplay_38 ⟨Nat.zero_le _, Nat.zero_le _⟩ ?_
        refine eg_ifeq_b (tgt := 52) hx hb dX0_toReplay_41 (by decide) (fun c41 => ?_) (fun c41 => ?_)
        · refine lv_iinc (v := nI (i + 1)) (lv' := [(8, .int (nI (i + 1))), (0, .ref (q 0)), (1, .int (nI a)), (2, .long (kn a)), (4, .long (cO an la (kn a) n)), (6, .long (tpX an (cO an la (kn a) n) i))]) hx hb dX0_toReplay_52 hl (k := 5) rfl (eg_inc1 _) (by decide) rfl (fun ls hl => ?_)
          refine lv_goto (tgt := 25) hx hb dX0_toReplay_55 (by decide) ?_
          have eA0 : tpX an (cO an la (kn a) n) (i + 1) = tpX an (cO an la (kn a) n) i := by first | (rw [tpX, if_pos c41]; done) | (rw [tpX, if_neg (by simp [c41])]; done)
          exact ih (i + 1) _ (by omega) (by omega) (by rw [eA0]; exact lv_sub hl [1, 2, 3, 4, 5, 0] rfl)
        · refine lv_aload_n hx hb dX0_toReplay_44 rfl (lv_at hl 0 rfl) ?_
          refine lv_iload hx hb dX0_toReplay_45 (lv_at hl 5 rfl) ?_
          refine eg_callV (As := [.int (nI i)]) (rest := []) hx hb hml hown hts hK hP (c_X0_versionOfEvent l D cI cJ q n mk lt tg pa an la kn fb fh nb te wt bh i (by omega)) (cwV 1 hts gX0_toReplay_X0_versionOfEvent rfl rfl rfl (by decide +kernel) ⟨Nat.le_of_ble_eq_true rfl, Nat.le_of_ble_eq_true rfl⟩) (va_recv hK hP (ci := 0) (q0 := 0) rfl rfl) rfl hl.1 rfl (Nat.le_of_ble_eq_true rfl) dX0_toReplay_47 ⟨Nat.zero_le _, Nat.zero_le _⟩ ?_
          refine lv_lstore (lv' := [(6, .long (an i ||| ol i)), (0, .ref (q 0)), (1, .int (nI a)), (2, .long (kn a)), (4, .long (cO an la (kn a) n)), (8, .int (nI i))]) hx hb dX0_toReplay_50 hl (by decide) rfl (fun ls hl => ?_)
          refine lv_iinc (v := nI (i + 1)) (lv' := [(8, .int (nI (i + 1))), (6, .long (an i ||| ol i)), (0, .ref (q 0)), (1, .int (nI a)), (2, .long (kn a)), (4, .long (cO an la (kn a) n))]) hx hb dX0_toReplay_52 hl (k := 5) rfl (eg_inc1 _) (by decide) rfl (fun ls hl => ?_)
          refine lv_goto (tgt := 25) hx hb dX0_toReplay_55 (by decide) ?_
          have eA0 : tpX an (cO an la (kn a) n) (i + 1) = (an i ||| ol i) := by first | (rw [tpX, if_pos c41]; done) | (rw [tpX, if_neg (by simp [c41])]; done)
          exact ih (i + 1) _ (by omega) (by omega) (by rw [eA0]; exact lv_sub hl [2, 3, 4, 5, 1, 0] rfl)
  refine lv_aload_n hx hb dX0_toReplay_0 rfl (lv_at hl 0 rfl) ?_
  refine lv_iload_n hx hb dX0_toReplay_1 rfl (lv_at hl 1 rfl) ?_
  refine eg_callV (As := [.int (nI a)]) (rest := []) hx hb hml hown hts hK hP (c_X0_checkAuthor l D cI cJ q n mk lt tg pa an la kn fb fh nb te wt bh a (by omega)) (cwV 1 hts gX0_toReplay_X0_checkAuthor rfl rfl rfl (by decide +kernel) ⟨Nat.le_of_ble_eq_true rfl, Nat.le_of_ble_eq_true rfl⟩) (va_recv hK hP (ci := 0) (q0 := 0) rfl rfl) rfl hl.1 rfl (Nat.le_of_ble_eq_true rfl) dX0_toReplay_2 ⟨Nat.zero_le _, Nat.zero_le _⟩ ?_
  refine lv_aload_n hx hb dX0_toReplay_5 rfl (lv_at hl 0 rfl) ?_
  refine va_get (D := D) (ci := 0) (v := .ref (q 7)) (C := RX0) (T := TX0) (N := 14) hx hb hts hin hown hK hP 0 rfl rfl 7 (by decide) (hts (.fieldLink RX0 33 "EditGraph" "knownSets" "[J") (by decide +kernel)) (fun _ h9 => h9) rfl dX0_toReplay_6 ?_
  refine lv_iload_n hx hb dX0_toReplay_9 rfl (lv_at hl 1 rfl) ?_
  refine eg_lald hx hb hK hP 7 1 rfl rfl (by omega) (by decide) dX0_toReplay_10 ?_
  refine lv_lstore_n (lv' := [(2, .long (kn a)), (0, .ref (q 0)), (1, .int (nI a))]) hx hb dX0_toReplay_11 rfl hl (by decide) rfl (fun ls hl => ?_)
  refine lv_aload_n hx hb dX0_toReplay_12 rfl (lv_at hl 1 rfl) ?_
  refine lv_lload_n hx hb dX0_toReplay_13 rfl (lv_at hl 0 rfl) ?_
  refine eg_callV (As := [.long (kn a)]) (rest := []) hx hb hml hown hts hK hP (c_X0_criticalOf l D cI cJ q n mk lt tg pa an la kn fb fh nb te wt bh (kn a) hI.1) (cwV 1 hts gX0_toReplay_X0_criticalOf rfl rfl rfl (by decide +kernel) ⟨Nat.le_of_ble_eq_true rfl, Nat.le_of_ble_eq_true rfl⟩) (va_recv hK hP (ci := 0) (q0 := 0) rfl rfl) rfl hl.1 rfl (Nat.le_of_ble_eq_true rfl) dX0_toReplay_14 ⟨Nat.zero_le _, Nat.zero_le _⟩ ?_
  refine lv_lstore (lv' := [(4, .long (cO an la (kn a) n)), (2, .long (kn a)), (0, .ref (q 0)), (1, .int (nI a))]) hx hb dX0_toReplay_17 hl (by decide) rfl (fun ls hl => ?_)
  refine lv_lconst (v := 0) hx hb dX0_toReplay_19 (by decide) ?_
  refine lv_lstore (lv' := [(6, .long 0), (4, .long (cO an la (kn a) n)), (2, .long (kn a)), (0, .ref (q 0)), (1, .int (nI a))]) hx hb dX0_toReplay_20 hl (by decide) rfl (fun ls hl => ?_)
  refine lv_iconst (v := nI 0) hx hb dX0_toReplay_22 (by decide +kernel) ?_
  refine lv_istore (lv' := [(8, .int (nI 0)), (6, .long 0), (4, .long (cO an la (kn a) n)), (2, .long (kn a)), (0, .ref (q 0)), (1, .int (nI a))]) hx hb dX0_toReplay_23 hl (by decide) rfl (fun ls hl => ?_)
  exact loop (n + 1) 0 _ (by omega) (by omega) (lv_sub hl [4, 5, 3, 2, 1, 0] rfl)
set_option maxHeartbeats 4000000 in
set_option maxRecDepth 100000 in
theorem c_X0_runs (l : Launch) (D : va_G) (cI cJ : ClassId) (q : Nat → Nat) (n : Nat) (mk lt tg : Nat → Int32) (pa an la kn : Nat → Int64) (fb : Int32) (fh nb te wt bh : Nat → Int32) (a : Nat) (hI : Inv n lt tg an kn) (ha : a < 4) : eg_MR D (tyL cI cJ) l yX0_runs wsX0_runs ({ frames := 2, cells := 0, slots := 0, locals := 43 }) [.ref (q 0), .int (nI a)] (wX q cI cJ (nI n) mk lt tg pa an la kn fb fh nb te wt bh) (some (.int (nI (rnX n mk lt tg pa (kn a) n)))) := by
  have hI1 := hI.1
  refine Met.ofW (cc := cX0_runs) (maxL := 6) (ret := (some .int)) (by decide) rfl ?_
  intro p e s m args below meth c s₁ B hml hv
  obtain ⟨rfl, hP, hK⟩ := hv
  have hx := B.exec
  have hb := B.bytes
  have hr := B.returns
  have hts := atoms_spec (ws := wsX0_runs) B.pre
  have hown : s.vm.findClass RX0 = some m.cls := findClass_of_methodNamed B.named
  have hlocks := B.notSynchronized
  have hin : ∀ w ∈ u_ws RX0 TX0 14, w ∈ wsX0_runs := by decide +kernel
  have hl := lv_entry ([.ref (q 0), .int (nI a)]) (n := 6) (Nat.le_of_ble_eq_true rfl)
  rw [lg_entry_eq]
  generalize (lg_sl ([.ref (q 0), .int (nI a)]) ++ List.replicate (6 - (lg_sl ([.ref (q 0), .int (nI a)])).length) Slot.unset).toArray = ls at hl ⊢
  have hl : lv_has ls 6 [(0, .ref (q 0)), (1, .int (nI a))] := hl
  have loop : ∀ (f i : Nat) (ls : Array Slot), n < i + f → i ≤ n → lv_has ls 6 [(0, .ref (q 0)), (1, .int (nI a)), (2, .long (kn a)), (4, .int (nI (rnX n mk lt tg pa (kn a) i))), (5, .int (nI i))] → W p l e (headSpec wsX0_runs ({ frames := 2, cells := 0, slots := 0, locals := 43 })).room s m ([.ref (q 0), .int (nI a)] : List Value).toArray below meth c s.heap [] 0 0 (MQ below (eg_R (some (.int (nI (rnX n mk lt tg pa (kn a) n))))) ([.ref (q 0), .int (nI a)] : List Value).toArray s 0 0 (fun _ => False)) (F0 m 18 ls []) := by
    intro f
    induction f with
    | zero => intro i  ls h1 h2 hl; omega
    | succ f ih =>
      intro i  ls h1 h2 hl
      refine lv_iload hx hb dX0_runs_18 (lv_at hl 4 rfl) ?_
      refine lv_aload_n hx hb dX0_runs_20 rfl (lv_at hl 0 rfl) ?_
      refine va_get (D := D) (ci := 0) (v := .int (nI n)) (C := RX0) (T := TX0) (N := 14) hx hb hts hin hown hK hP 0 rfl rfl 0 (by decide) (hts (.fieldLink RX0 7 "EditGraph" "eventCount" "I") (by decide +kernel)) (fun _ h9 => h9) rfl dX0_runs_21 ?_
      refine eg_icmp_ge (tgt := 54) hx hb dX0_runs_24 (by decide) (by omega) (by omega) (fun c24 => ?_) (fun c24 => ?_)
      · refine lv_iload hx hb dX0_runs_54 (lv_at hl 3 rfl) ?_
        exact W.iret hx hb hr (fun t9 ht9 _ => ⟨congrArg (fun z => Outcome.returned (some (Value.int z))) (by first | (rw [show i = n by omega]; done)), ht9⟩) (fun q h => nomatch h) dX0_runs_56
      · refine lv_lload_n hx hb dX0_runs_27 rfl (lv_at hl 2 rfl) ?_
        refine lv_iload hx hb dX0_runs_28 (lv_at hl 4 rfl) ?_
        refine eg_callS (As := [.long (kn a), .int (nI i)]) (rest := []) hx hb hml hown hts hK (c_X0_has l D cI cJ (kn a) i (by omega)) (va_cwS 2 hts gX0_runs_X0_has rfl rfl rfl (by decide +kernel) ⟨Nat.le_of_ble_eq_true rfl, Nat.le_of_ble_eq_true rfl⟩) rfl hl.1 rfl (Nat.le_of_ble_eq_true rfl) dX0_runs_30 ⟨Nat.zero_le _, Nat.zero_le _⟩ ?_
        refine eg_ifeq_b (tgt := 48) hx hb dX0_runs_33 (by decide) (fun c33 => ?_) (fun c33 => ?_)
        · refine lv_iinc (v := nI (i + 1)) (lv' := [(5, .int (nI (i + 1))), (0, .ref (q 0)), (1, .int (nI a)), (2, .long (kn a)), (4, .int (nI (rnX n mk lt tg pa (kn a) i)))]) hx hb dX0_runs_48 hl (k := 4) rfl (eg_inc1 _) (by decide) rfl (fun ls hl => ?_)
          refine lv_goto (tgt := 18) hx hb dX0_runs_51 (by decide) ?_
          have eA0 : rnX n mk lt tg pa (kn a) (i + 1) = rnX n mk lt tg pa (kn a) i := by first | (rw [rnX, if_pos ⟨c33, c42⟩]; done) | (rw [rnX, if_neg (fun h => Bool.noConfusion (c33.symm.trans h.1))]; done) | (rw [rnX, if_neg (fun h => Bool.noConfusion (c42.symm.trans h.2))]; done)
          exact ih (i + 1) _ (by omega) (by omega) (by rw [eA0]; exact lv_sub hl [1, 2, 3, 4, 0] rfl)
        · refine lv_aload_n hx hb dX0_runs_36 rfl (lv_at hl 0 rfl) ?_
          refine lv_iload hx hb dX0_runs_37 (lv_at hl 4 rfl) ?_
          refine eg_callV (As := [.int (nI i)]) (rest := []) hx hb hml hown hts hK hP (c_X0_continuesRun l D cI cJ q n mk lt tg pa an la kn fb fh nb te wt bh i hI.1 (by omega)) (cwV 1 hts gX0_runs_X0_continuesRun rfl rfl rfl (by decide +kernel) ⟨Nat.le_of_ble_eq_true rfl, Nat.le_of_ble_eq_true rfl⟩) (va_recv hK hP (ci := 0) (q0 := 0) rfl rfl) rfl hl.1 rfl (Nat.le_of_ble_eq_true rfl) dX0_runs_39 ⟨Nat.zero_le _, Nat.zero_le _⟩ ?_
          refine eg_ifne_b (tgt := 48) hx hb dX0_runs_42 (by decide) (fun c42 => ?_) (fun c42 => ?_)
          · refine lv_iinc (v := nI (i + 1)) (lv' := [(5, .int (nI (i + 1))), (0, .ref (q 0)), (1, .int (nI a)), (2, .long (kn a)), (4, .int (nI (rnX n mk lt tg pa (kn a) i)))]) hx hb dX0_runs_48 hl (k := 4) rfl (eg_inc1 _) (by decide) rfl (fun ls hl => ?_)
            refine lv_goto (tgt := 18) hx hb dX0_runs_51 (by decide) ?_
            have eA0 : rnX n mk lt tg pa (kn a) (i + 1) = rnX n mk lt tg pa (kn a) i := by first | (rw [rnX, if_pos ⟨c33, c42⟩]; done) | (rw [rnX, if_neg (fun h => Bool.noConfusion (c33.symm.trans h.1))]; done) | (rw [rnX, if_neg (fun h => Bool.noConfusion (c42.symm.trans h.2))]; done)
            exact ih (i + 1) _ (by omega) (by omega) (by rw [eA0]; exact lv_sub hl [1, 2, 3, 4, 0] rfl)
          · refine lv_iinc (v := nI (rnX n mk lt tg pa (kn a) i + 1)) (lv' := [(4, .int (nI (rnX n mk lt tg pa (kn a) i + 1))), (0, .ref (q 0)), (1, .int (nI a)), (2, .long (kn a)), (5, .int (nI i))]) hx hb dX0_runs_45 hl (k := 3) rfl (eg_inc1 _) (by decide) rfl (fun ls hl => ?_)
            refine lv_iinc (v := nI (i + 1)) (lv' := [(5, .int (nI (i + 1))), (4, .int (nI (rnX n mk lt tg pa (kn a) i + 1))), (0, .ref (q 0)), (1, .int (nI a)), (2, .long (kn a))]) hx hb dX0_runs_48 hl (k := 4) rfl (eg_inc1 _) (by decide) rfl (fun ls hl => ?_)
            refine lv_goto (tgt := 18) hx hb dX0_runs_51 (by decide) ?_
            have eA0 : rnX n mk lt tg pa (kn a) (i + 1) = rnX n mk lt tg pa (kn a) i + 1 := by first | (rw [rnX, if_pos ⟨c33, c42⟩]; done) | (rw [rnX, if_neg (fun h => Bool.noConfusion (c33.symm.trans h.1))]; done) | (rw [rnX, if_neg (fun h => Bool.noConfusion (c42.symm.trans h.2))]; done)
            exact ih (i + 1) _ (by omega) (by omega) (by rw [eA0]; exact lv_sub hl [2, 3, 4, 1, 0] rfl)
  refine lv_aload_n hx hb dX0_runs_0 rfl (lv_at hl 0 rfl) ?_
  refine lv_iload_n hx hb dX0_runs_1 rfl (lv_at hl 1 rfl) ?_
  refine eg_callV (As := [.int (nI a)]) (rest := []) hx hb hml hown hts hK hP (c_X0_checkAuthor l D cI cJ q n mk lt tg pa an la kn fb fh nb te wt bh a (by omega)) (cwV 1 hts gX0_runs_X0_checkAuthor rfl rfl rfl (by decide +kernel) ⟨Nat.le_of_ble_eq_true rfl, Nat.le_of_ble_eq_true rfl⟩) (va_recv hK hP (ci := 0) (q0 := 0) rfl rfl) rfl hl.1 rfl (Nat.le_of_ble_eq_true rfl) dX0_runs_2 ⟨Nat.zero_le _, Nat.zero_le _⟩ ?_
  refine lv_aload_n hx hb dX0_runs_5 rfl (lv_at hl 0 rfl) ?_
  refine va_get (D := D) (ci := 0) (v := .ref (q 7)) (C := RX0) (T := TX0) (N := 14) hx hb hts hin hown hK hP 0 rfl rfl 7 (by decide) (hts (.fieldLink RX0 33 "EditGraph" "knownSets" "[J") (by decide +kernel)) (fun _ h9 => h9) rfl dX0_runs_6 ?_
  refine lv_iload_n hx hb dX0_runs_9 rfl (lv_at hl 1 rfl) ?_
  refine eg_lald hx hb hK hP 7 1 rfl rfl (by omega) (by decide) dX0_runs_10 ?_
  refine lv_lstore_n (lv' := [(2, .long (kn a)), (0, .ref (q 0)), (1, .int (nI a))]) hx hb dX0_runs_11 rfl hl (by decide) rfl (fun ls hl => ?_)
  refine lv_iconst (v := nI 0) hx hb dX0_runs_12 (by decide +kernel) ?_
  refine lv_istore (lv' := [(4, .int (nI 0)), (2, .long (kn a)), (0, .ref (q 0)), (1, .int (nI a))]) hx hb dX0_runs_13 hl (by decide) rfl (fun ls hl => ?_)
  refine lv_iconst (v := nI 0) hx hb dX0_runs_15 (by decide +kernel) ?_
  refine lv_istore (lv' := [(5, .int (nI 0)), (4, .int (nI 0)), (2, .long (kn a)), (0, .ref (q 0)), (1, .int (nI a))]) hx hb dX0_runs_16 hl (by decide) rfl (fun ls hl => ?_)
  exact loop (n + 1) 0 _ (by omega) (by omega) (lv_sub hl [3, 4, 2, 1, 0] rfl)
end
section
-- insert and delete (by gen.py, specE.py)
set_option maxHeartbeats 4000000 in
set_option maxRecDepth 100000 in
theorem c_X0_insert (l : Launch) (D : va_G) (cI cJ : ClassId) (q : Nat → Nat) (n : Nat) (mk lt tg : Nat → Int32) (pa an la kn : Nat → Int64) (fb : Int32) (fh nb te wt bh : Nat → Int32) (a : Nat) (pp : Nat) (c9 : Int32) (hI : Inv n lt tg an kn) (htr : ∃ f, Tr n fh nb f fb (lay (ins lt) tg n)) (ha : a < 4) (hp : pp ≤ (tx n lt tg (kn a)).length) (hc : ¬ c9 < 0) (hc2 : c9 < nI 26) (hnr : n < 60) : eg_MW D (tyL cI cJ) l yX0_insert wsX0_insert ({ frames := 4, cells := 0, slots := 0, locals := 97 }) 0 0 [.ref (q 0), .int (nI a), .int (nI pp), .int c9] (wX q cI cJ (nI n) mk lt tg pa an la kn fb fh nb te wt bh) (fun r w1 => ∃ (tt : Int32) (te' wt' : Nat → Int32) (fb' : Int32) (fh' nb' : Nat → Int32), ((pp = 0 ∧ tt = -1) ∨ (0 < pp ∧ ∃ x : Nat, (tx n lt tg (kn a))[pp - 1]? = some x ∧ tt = nI x)) ∧ (∃ f, Tr (n + 1) fh' nb' f fb' (lay (ins (upd lt n c9)) (upd tg n tt) (n + 1))) ∧ r = some (.int (nI n)) ∧ w1 = wX q cI cJ (nI (n + 1)) (upd mk n (nI a)) (upd lt n c9) (upd tg n tt) (vp_updL pa n (hdX pa (kn a) n)) (vp_updL an n (kn a)) (mL la (kn a) n n) (vp_updL kn a (kn a ||| ol n)) fb' fh' nb' te' wt' bh) := by
  refine Met.ofW (cc := cX0_insert) (maxL := 7) (ret := (some .int)) (by decide) rfl ?_
  intro p e s m args below meth c s₁ B hml hv
  obtain ⟨rfl, hP, hK, hD0⟩ := hv
  have hx := B.exec
  have hb := B.bytes
  have hr := B.returns
  have hts := atoms_spec (ws := wsX0_insert) B.pre
  have hown : s.vm.findClass RX0 = some m.cls := findClass_of_methodNamed B.named
  have hlocks := B.notSynchronized
  have hD := eg_D_of hD0
  have hS : va_S (eg_A (wX q cI cJ (nI n) mk lt tg pa an la kn fb fh nb te wt bh)) s.heap s.heap [] := va_S.rf
  have hin : ∀ w ∈ u_ws RX0 TX0 14, w ∈ wsX0_insert := by decide +kernel
  have hl := lv_entry ([.ref (q 0), .int (nI a), .int (nI pp), .int c9]) (n := 7) (Nat.le_of_ble_eq_true rfl)
  rw [lg_entry_eq]
  generalize (lg_sl ([.ref (q 0), .int (nI a), .int (nI pp), .int c9]) ++ List.replicate (7 - (lg_sl ([.ref (q 0), .int (nI a), .int (nI pp), .int c9])).length) Slot.unset).toArray = ls at hl ⊢
  have hl : lv_has ls 7 [(0, .ref (q 0)), (1, .int (nI a)), (2, .int (nI pp)), (3, .int c9)] := hl
  generalize h0H : s.heap = H at hP ⊢
  have hS : va_S (eg_A (wX q cI cJ (nI n) mk lt tg pa an la kn fb fh nb te wt bh)) s.heap H [] := by rw [← h0H]; exact hS
  generalize ([] : List Loc) = locs at hS ⊢
  refine lv_aload_n hx hb dX0_insert_0 rfl (lv_at hl 0 rfl) ?_
  refine lv_iload_n hx hb dX0_insert_1 rfl (lv_at hl 1 rfl) ?_
  refine eg_callV (As := [.int (nI a)]) (rest := []) hx hb hml hown hts hK hP (c_X0_checkAuthor l D cI cJ q n mk lt tg pa an la kn fb fh nb te wt bh a (by omega)) (cwV 1 hts gX0_insert_X0_checkAuthor rfl rfl rfl (by decide +kernel) ⟨Nat.le_of_ble_eq_true rfl, Nat.le_of_ble_eq_true rfl⟩) (va_recv hK hP (ci := 0) (q0 := 0) rfl rfl) rfl hl.1 rfl (Nat.le_of_ble_eq_true rfl) dX0_insert_2 ⟨Nat.zero_le _, Nat.zero_le _⟩ ?_
  refine lv_aload_n hx hb dX0_insert_5 rfl (lv_at hl 0 rfl) ?_
  refine lv_aload_n hx hb dX0_insert_6 rfl (lv_at hl 0 rfl) ?_
  refine va_get (D := D) (ci := 0) (v := .ref (q 7)) (C := RX0) (T := TX0) (N := 14) hx hb hts hin hown hK hP 0 rfl rfl 7 (by decide) (hts (.fieldLink RX0 33 "EditGraph" "knownSets" "[J") (by decide +kernel)) (fun _ h9 => h9) rfl dX0_insert_7 ?_
  refine lv_iload_n hx hb dX0_insert_10 rfl (lv_at hl 1 rfl) ?_
  refine eg_lald hx hb hK hP 7 1 rfl rfl (by omega) (by decide) dX0_insert_11 ?_
  have e9 := tx_all hI (hI.vk ha)
  refine eg_callWV (As := [.long (kn a)]) (rest := []) hx hb hml hown hts hK hP hD rfl hS (c_X0_findText l D cI cJ q n mk lt tg pa an la kn fb fh nb te wt bh (kn a) (lay (ins lt) tg n) hI.1 hI.hdl htr (Nat.le_trans (lay_len n (lay_nodup (Nat.le_trans hI.1 (by decide)) hI.hangA)) hI.1)) (cwV 1 hts gX0_insert_X0_findText rfl rfl rfl (by decide +kernel) ⟨Nat.le_of_ble_eq_true rfl, Nat.le_of_ble_eq_true rfl⟩) (va_recv hK hP (ci := 0) (q0 := 0) rfl rfl) rfl hl.1 rfl (Nat.le_of_ble_eq_true rfl) dX0_insert_12 ⟨Nat.zero_le _, Nat.zero_le _⟩ (fun v9 w9 H locs hR9 hw9 hP hS => ?_)
  obtain ⟨te1, wt1, rfl, rfl, hh1⟩ := hR9
  rw [e9] at hh1 ⊢
  have hT9 := tx_len hI (hI.vk ha)
  have hI1 := hI.1
  refine lv_istore (lv' := [(4, .int (nI ((tx n lt tg (kn a)).length))), (0, .ref (q 0)), (1, .int (nI a)), (2, .int (nI pp)), (3, .int c9)]) hx hb dX0_insert_15 hl (by decide) rfl (fun ls hl => ?_)
  refine lv_aload_n hx hb dX0_insert_17 rfl (lv_at hl 1 rfl) ?_
  refine lv_iload_n hx hb dX0_insert_18 rfl (lv_at hl 3 rfl) ?_
  refine lv_iload hx hb dX0_insert_19 (lv_at hl 0 rfl) ?_
  refine lv_iconst (v := nI 1) hx hb dX0_insert_21 (by decide +kernel) ?_
  refine eg_iadd hx hb dX0_insert_22 ?_
  refine eg_callV (As := [.int (nI pp), .int (nI ((tx n lt tg (kn a)).length + 1))]) (rest := []) hx hb hml hown hts hK hP (c_X0_checkPlace l D cI cJ q n mk lt tg pa an la kn fb fh nb te1 wt1 bh pp ((tx n lt tg (kn a)).length + 1) (by omega) (by omega)) (cwV 2 hts gX0_insert_X0_checkPlace rfl rfl rfl (by decide +kernel) ⟨Nat.le_of_ble_eq_true rfl, Nat.le_of_ble_eq_true rfl⟩) (va_recv hK hP (ci := 0) (q0 := 0) rfl rfl) rfl hl.1 rfl (Nat.le_of_ble_eq_true rfl) dX0_insert_23 ⟨Nat.zero_le _, Nat.zero_le _⟩ ?_
  refine lv_iload_n hx hb dX0_insert_26 rfl (lv_at hl 4 rfl) ?_
  refine lv_if_lt (tgt := 36) hx hb dX0_insert_27 (by decide) (fun c27 => ?_) (fun c27 => ?_)
  · first | exact absurd c27 hc | exact absurd hc2 c33
  · refine lv_iload_n hx hb dX0_insert_30 rfl (lv_at hl 4 rfl) ?_
    refine lv_bipush (v := nI 26) hx hb dX0_insert_31 (by decide +kernel) ?_
    refine lv_icmp_lt (tgt := 46) hx hb dX0_insert_33 (by decide) (fun c33 => ?_) (fun c33 => ?_)
    · refine lv_aload_n hx hb dX0_insert_46 rfl (lv_at hl 1 rfl) ?_
      refine eg_callV (As := []) (rest := []) hx hb hml hown hts hK hP (c_X0_checkRoom l D cI cJ q n mk lt tg pa an la kn fb fh nb te1 wt1 bh  hnr) (cwV 0 hts gX0_insert_X0_checkRoom rfl rfl rfl (by decide +kernel) ⟨Nat.le_of_ble_eq_true rfl, Nat.le_of_ble_eq_true rfl⟩) (va_recv hK hP (ci := 0) (q0 := 0) rfl rfl) rfl hl.1 rfl (Nat.le_of_ble_eq_true rfl) dX0_insert_47 ⟨Nat.zero_le _, Nat.zero_le _⟩ ?_
      refine lv_iload_n hx hb dX0_insert_50 rfl (lv_at hl 3 rfl) ?_
      refine eg_if_ne (tgt := 58) hx hb dX0_insert_51 (by decide) (by omega) (fun c51 => ?_) (fun c51 => ?_)
      · refine lv_aload_n hx hb dX0_insert_58 rfl (lv_at hl 1 rfl) ?_
        refine va_get (D := D) (ci := 0) (v := .ref (q 10)) (C := RX0) (T := TX0) (N := 14) hx hb hts hin hown hK hP 0 rfl rfl 11 (by decide) (hts (.fieldLink RX0 45 "EditGraph" "textEvents" "[I") (by decide +kernel)) (fun _ h9 => h9) rfl dX0_insert_59 ?_
        refine lv_iload_n hx hb dX0_insert_62 rfl (lv_at hl 3 rfl) ?_
        refine lv_iconst (v := nI 1) hx hb dX0_insert_63 (by decide +kernel) ?_
        refine eg_isub hx hb dX0_insert_64 (by omega) ?_
        refine eg_iald hx hb hK hP 10 0 rfl rfl (by omega) (by decide) dX0_insert_65 ?_
        obtain ⟨x9, hx9⟩ := getq (L := (tx n lt tg (kn a))) (k := pp - 1) (by omega)
        rw [hh1 _ _ hx9]
        have hxn := (tx_mem (List.mem_of_getElem? hx9)).1
        refine lv_istore (lv' := [(5, .int (nI x9)), (4, .int (nI ((tx n lt tg (kn a)).length))), (0, .ref (q 0)), (1, .int (nI a)), (2, .int (nI pp)), (3, .int c9)]) hx hb dX0_insert_66 hl (by decide) rfl (fun ls hl => ?_)
        refine lv_aload_n hx hb dX0_insert_68 rfl (lv_at hl 2 rfl) ?_
        refine lv_iload_n hx hb dX0_insert_69 rfl (lv_at hl 3 rfl) ?_
        refine lv_iload_n hx hb dX0_insert_70 rfl (lv_at hl 5 rfl) ?_
        refine lv_iload hx hb dX0_insert_71 (lv_at hl 0 rfl) ?_
        refine eg_callWV (As := [.int (nI a), .int c9, .int (nI x9)]) (rest := []) hx hb hml hown hts hK hP hD rfl hS (c_X0_addEvent l D cI cJ q n mk lt tg pa an la kn fb fh nb te1 wt1 bh a c9 (nI x9) hnr ha) (cwV 3 hts gX0_insert_X0_addEvent rfl rfl rfl (by decide +kernel) ⟨Nat.le_of_ble_eq_true rfl, Nat.le_of_ble_eq_true rfl⟩) (va_recv hK hP (ci := 0) (q0 := 0) rfl rfl) rfl hl.1 rfl (Nat.le_of_ble_eq_true rfl) dX0_insert_73 ⟨Nat.zero_le _, Nat.zero_le _⟩ (fun v9 w9 H locs hR9 hw9 hP hS => ?_)
        obtain ⟨rfl, rfl⟩ := hR9
        refine lv_istore (lv' := [(6, .int (nI n)), (5, .int (nI x9)), (4, .int (nI ((tx n lt tg (kn a)).length))), (0, .ref (q 0)), (1, .int (nI a)), (2, .int (nI pp)), (3, .int c9)]) hx hb dX0_insert_76 hl (by decide) rfl (fun ls hl => ?_)
        refine lv_aload_n hx hb dX0_insert_78 rfl (lv_at hl 3 rfl) ?_
        refine lv_iload hx hb dX0_insert_79 (lv_at hl 0 rfl) ?_
        refine lv_iload hx hb dX0_insert_81 (lv_at hl 1 rfl) ?_
        refine eg_callWV (As := [.int (nI n), .int (nI x9)]) (rest := []) hx hb hml hown hts hK hP hD rfl hS (c_X0_hangLetter l D cI cJ q (n + 1) (upd mk n (nI a)) (upd lt n c9) (upd tg n (nI x9)) (vp_updL pa n (hdX pa (kn a) n)) (vp_updL an n (kn a)) (mL la (kn a) n n) (vp_updL kn a (kn a ||| ol n)) fb fh nb te1 wt1 bh n (nI x9) (by omega) (by omega)) (cwV 2 hts gX0_insert_X0_hangLetter rfl rfl rfl (by decide +kernel) ⟨Nat.le_of_ble_eq_true rfl, Nat.le_of_ble_eq_true rfl⟩) (va_recv hK hP (ci := 0) (q0 := 0) rfl rfl) rfl hl.1 rfl (Nat.le_of_ble_eq_true rfl) dX0_insert_83 ⟨Nat.zero_le _, Nat.zero_le _⟩ (fun v9 w9 H locs hR9 hw9 hP hS => ?_)
        obtain ⟨rfl, hH⟩ := hR9
        obtain ⟨fb1, fh1, nb1, hTr1, rfl⟩ : ∃ (fb' : Int32) (fh' nb' : Nat → Int32), (∃ f, Tr (n + 1) fh' nb' f fb' (lay (ins (upd lt n c9)) (upd tg n (nI x9)) (n + 1))) ∧ w9 = wX q cI cJ (nI (n + 1)) (upd mk n (nI a)) (upd lt n c9) (upd tg n (nI x9)) (vp_updL pa n (hdX pa (kn a) n)) (vp_updL an n (kn a)) (mL la (kn a) n n) (vp_updL kn a (kn a ||| ol n)) fb' fh' nb' te1 wt1 bh := by
          rcases hH with ⟨t8, ht8, eh8, rfl⟩ | ⟨eh8, rfl⟩
          · exact ⟨_, _, _, hang_Tr hI hnr htr (fun h => hc (by rw [h]; decide)) (Or.inr ⟨x9, hxn, rfl⟩) (Or.inl ⟨t8, ht8, eh8, rfl, rfl, rfl⟩), rfl⟩
          · exact ⟨_, _, _, hang_Tr hI hnr htr (fun h => hc (by rw [h]; decide)) (Or.inr ⟨x9, hxn, rfl⟩) (Or.inr ⟨eh8, rfl, rfl, rfl⟩), rfl⟩
        refine lv_iload hx hb dX0_insert_86 (lv_at hl 0 rfl) ?_
        exact W.iret hx hb hr (fun t9 ht9 _ => ⟨some (.int (nI n)), (wX q cI cJ (nI (n + 1)) (upd mk n (nI a)) (upd lt n c9) (upd tg n (nI x9)) (vp_updL pa n (hdX pa (kn a) n)) (vp_updL an n (kn a)) (mL la (kn a) n n) (vp_updL kn a (kn a ||| ol n)) fb1 fh1 nb1 te1 wt1 bh), rfl, ⟨_, te1, wt1, fb1, fh1, nb1, Or.inr ⟨c51, x9, hx9, rfl⟩, hTr1, rfl, rfl⟩, rfl, by rw [ht9]; exact hP, hS.F ht9⟩) hS.2.2 dX0_insert_88
      · refine lv_iconst (v := (-1)) hx hb dX0_insert_54 (by decide +kernel) ?_
        refine lv_goto (tgt := 66) hx hb dX0_insert_55 (by decide) ?_
        refine lv_istore (lv' := [(5, .int (-1)), (4, .int (nI ((tx n lt tg (kn a)).length))), (0, .ref (q 0)), (1, .int (nI a)), (2, .int (nI pp)), (3, .int c9)]) hx hb dX0_insert_66 hl (by decide) rfl (fun ls hl => ?_)
        refine lv_aload_n hx hb dX0_insert_68 rfl (lv_at hl 2 rfl) ?_
        refine lv_iload_n hx hb dX0_insert_69 rfl (lv_at hl 3 rfl) ?_
        refine lv_iload_n hx hb dX0_insert_70 rfl (lv_at hl 5 rfl) ?_
        refine lv_iload hx hb dX0_insert_71 (lv_at hl 0 rfl) ?_
        refine eg_callWV (As := [.int (nI a), .int c9, .int (-1)]) (rest := []) hx hb hml hown hts hK hP hD rfl hS (c_X0_addEvent l D cI cJ q n mk lt tg pa an la kn fb fh nb te1 wt1 bh a c9 (-1) hnr ha) (cwV 3 hts gX0_insert_X0_addEvent rfl rfl rfl (by decide +kernel) ⟨Nat.le_of_ble_eq_true rfl, Nat.le_of_ble_eq_true rfl⟩) (va_recv hK hP (ci := 0) (q0 := 0) rfl rfl) rfl hl.1 rfl (Nat.le_of_ble_eq_true rfl) dX0_insert_73 ⟨Nat.zero_le _, Nat.zero_le _⟩ (fun v9 w9 H locs hR9 hw9 hP hS => ?_)
        obtain ⟨rfl, rfl⟩ := hR9
        refine lv_istore (lv' := [(6, .int (nI n)), (5, .int (-1)), (4, .int (nI ((tx n lt tg (kn a)).length))), (0, .ref (q 0)), (1, .int (nI a)), (2, .int (nI pp)), (3, .int c9)]) hx hb dX0_insert_76 hl (by decide) rfl (fun ls hl => ?_)
        refine lv_aload_n hx hb dX0_insert_78 rfl (lv_at hl 3 rfl) ?_
        refine lv_iload hx hb dX0_insert_79 (lv_at hl 0 rfl) ?_
        refine lv_iload hx hb dX0_insert_81 (lv_at hl 1 rfl) ?_
        refine eg_callWV (As := [.int (nI n), .int (-1)]) (rest := []) hx hb hml hown hts hK hP hD rfl hS (c_X0_hangLetter l D cI cJ q (n + 1) (upd mk n (nI a)) (upd lt n c9) (upd tg n (-1)) (vp_updL pa n (hdX pa (kn a) n)) (vp_updL an n (kn a)) (mL la (kn a) n n) (vp_updL kn a (kn a ||| ol n)) fb fh nb te1 wt1 bh n (-1) (by omega) (by omega)) (cwV 2 hts gX0_insert_X0_hangLetter rfl rfl rfl (by decide +kernel) ⟨Nat.le_of_ble_eq_true rfl, Nat.le_of_ble_eq_true rfl⟩) (va_recv hK hP (ci := 0) (q0 := 0) rfl rfl) rfl hl.1 rfl (Nat.le_of_ble_eq_true rfl) dX0_insert_83 ⟨Nat.zero_le _, Nat.zero_le _⟩ (fun v9 w9 H locs hR9 hw9 hP hS => ?_)
        obtain ⟨rfl, hH⟩ := hR9
        obtain ⟨fb1, fh1, nb1, hTr1, rfl⟩ : ∃ (fb' : Int32) (fh' nb' : Nat → Int32), (∃ f, Tr (n + 1) fh' nb' f fb' (lay (ins (upd lt n c9)) (upd tg n (-1)) (n + 1))) ∧ w9 = wX q cI cJ (nI (n + 1)) (upd mk n (nI a)) (upd lt n c9) (upd tg n (-1)) (vp_updL pa n (hdX pa (kn a) n)) (vp_updL an n (kn a)) (mL la (kn a) n n) (vp_updL kn a (kn a ||| ol n)) fb' fh' nb' te1 wt1 bh := by
          rcases hH with ⟨t8, ht8, eh8, rfl⟩ | ⟨eh8, rfl⟩
          · exact ⟨_, _, _, hang_Tr hI hnr htr (fun h => hc (by rw [h]; decide)) (Or.inl rfl) (Or.inl ⟨t8, ht8, eh8, rfl, rfl, rfl⟩), rfl⟩
          · exact ⟨_, _, _, hang_Tr hI hnr htr (fun h => hc (by rw [h]; decide)) (Or.inl rfl) (Or.inr ⟨eh8, rfl, rfl, rfl⟩), rfl⟩
        refine lv_iload hx hb dX0_insert_86 (lv_at hl 0 rfl) ?_
        exact W.iret hx hb hr (fun t9 ht9 _ => ⟨some (.int (nI n)), (wX q cI cJ (nI (n + 1)) (upd mk n (nI a)) (upd lt n c9) (upd tg n (-1)) (vp_updL pa n (hdX pa (kn a) n)) (vp_updL an n (kn a)) (mL la (kn a) n n) (vp_updL kn a (kn a ||| ol n)) fb1 fh1 nb1 te1 wt1 bh), rfl, ⟨_, te1, wt1, fb1, fh1, nb1, Or.inl ⟨c51, rfl⟩, hTr1, rfl, rfl⟩, rfl, by rw [ht9]; exact hP, hS.F ht9⟩) hS.2.2 dX0_insert_88
    · first | exact absurd c27 hc | exact absurd hc2 c33
set_option maxHeartbeats 4000000 in
set_option maxRecDepth 100000 in
theorem c_X0_delete (l : Launch) (D : va_G) (cI cJ : ClassId) (q : Nat → Nat) (n : Nat) (mk lt tg : Nat → Int32) (pa an la kn : Nat → Int64) (fb : Int32) (fh nb te wt bh : Nat → Int32) (a : Nat) (pp : Nat) (hI : Inv n lt tg an kn) (htr : ∃ f, Tr n fh nb f fb (lay (ins lt) tg n)) (ha : a < 4) (hp : pp < (tx n lt tg (kn a)).length) (hnr : n < 60) : eg_MW D (tyL cI cJ) l yX0_delete wsX0_delete ({ frames := 4, cells := 0, slots := 0, locals := 97 }) 0 0 [.ref (q 0), .int (nI a), .int (nI pp)] (wX q cI cJ (nI n) mk lt tg pa an la kn fb fh nb te wt bh) (fun r w1 => ∃ (x : Nat) (te' wt' : Nat → Int32), (tx n lt tg (kn a))[pp]? = some x ∧ r = some (.int (nI n)) ∧ w1 = wX q cI cJ (nI (n + 1)) (upd mk n (nI a)) (upd lt n (-1)) (upd tg n (nI x)) (vp_updL pa n (hdX pa (kn a) n)) (vp_updL an n (kn a)) (mL la (kn a) n n) (vp_updL kn a (kn a ||| ol n)) fb fh nb te' wt' bh) := by
  refine Met.ofW (cc := cX0_delete) (maxL := 4) (ret := (some .int)) (by decide) rfl ?_
  intro p e s m args below meth c s₁ B hml hv
  obtain ⟨rfl, hP, hK, hD0⟩ := hv
  have hx := B.exec
  have hb := B.bytes
  have hr := B.returns
  have hts := atoms_spec (ws := wsX0_delete) B.pre
  have hown : s.vm.findClass RX0 = some m.cls := findClass_of_methodNamed B.named
  have hlocks := B.notSynchronized
  have hD := eg_D_of hD0
  have hS : va_S (eg_A (wX q cI cJ (nI n) mk lt tg pa an la kn fb fh nb te wt bh)) s.heap s.heap [] := va_S.rf
  have hin : ∀ w ∈ u_ws RX0 TX0 14, w ∈ wsX0_delete := by decide +kernel
  have hl := lv_entry ([.ref (q 0), .int (nI a), .int (nI pp)]) (n := 4) (Nat.le_of_ble_eq_true rfl)
  rw [lg_entry_eq]
  generalize (lg_sl ([.ref (q 0), .int (nI a), .int (nI pp)]) ++ List.replicate (4 - (lg_sl ([.ref (q 0), .int (nI a), .int (nI pp)])).length) Slot.unset).toArray = ls at hl ⊢
  have hl : lv_has ls 4 [(0, .ref (q 0)), (1, .int (nI a)), (2, .int (nI pp))] := hl
  generalize h0H : s.heap = H at hP ⊢
  have hS : va_S (eg_A (wX q cI cJ (nI n) mk lt tg pa an la kn fb fh nb te wt bh)) s.heap H [] := by rw [← h0H]; exact hS
  generalize ([] : List Loc) = locs at hS ⊢
  refine lv_aload_n hx hb dX0_delete_0 rfl (lv_at hl 0 rfl) ?_
  refine lv_iload_n hx hb dX0_delete_1 rfl (lv_at hl 1 rfl) ?_
  refine eg_callV (As := [.int (nI a)]) (rest := []) hx hb hml hown hts hK hP (c_X0_checkAuthor l D cI cJ q n mk lt tg pa an la kn fb fh nb te wt bh a (by omega)) (cwV 1 hts gX0_delete_X0_checkAuthor rfl rfl rfl (by decide +kernel) ⟨Nat.le_of_ble_eq_true rfl, Nat.le_of_ble_eq_true rfl⟩) (va_recv hK hP (ci := 0) (q0 := 0) rfl rfl) rfl hl.1 rfl (Nat.le_of_ble_eq_true rfl) dX0_delete_2 ⟨Nat.zero_le _, Nat.zero_le _⟩ ?_
  refine lv_aload_n hx hb dX0_delete_5 rfl (lv_at hl 0 rfl) ?_
  refine lv_aload_n hx hb dX0_delete_6 rfl (lv_at hl 0 rfl) ?_
  refine va_get (D := D) (ci := 0) (v := .ref (q 7)) (C := RX0) (T := TX0) (N := 14) hx hb hts hin hown hK hP 0 rfl rfl 7 (by decide) (hts (.fieldLink RX0 33 "EditGraph" "knownSets" "[J") (by decide +kernel)) (fun _ h9 => h9) rfl dX0_delete_7 ?_
  refine lv_iload_n hx hb dX0_delete_10 rfl (lv_at hl 1 rfl) ?_
  refine eg_lald hx hb hK hP 7 1 rfl rfl (by omega) (by decide) dX0_delete_11 ?_
  have e9 := tx_all hI (hI.vk ha)
  refine eg_callWV (As := [.long (kn a)]) (rest := []) hx hb hml hown hts hK hP hD rfl hS (c_X0_findText l D cI cJ q n mk lt tg pa an la kn fb fh nb te wt bh (kn a) (lay (ins lt) tg n) hI.1 hI.hdl htr (Nat.le_trans (lay_len n (lay_nodup (Nat.le_trans hI.1 (by decide)) hI.hangA)) hI.1)) (cwV 1 hts gX0_delete_X0_findText rfl rfl rfl (by decide +kernel) ⟨Nat.le_of_ble_eq_true rfl, Nat.le_of_ble_eq_true rfl⟩) (va_recv hK hP (ci := 0) (q0 := 0) rfl rfl) rfl hl.1 rfl (Nat.le_of_ble_eq_true rfl) dX0_delete_12 ⟨Nat.zero_le _, Nat.zero_le _⟩ (fun v9 w9 H locs hR9 hw9 hP hS => ?_)
  obtain ⟨te1, wt1, rfl, rfl, hh1⟩ := hR9
  rw [e9] at hh1 ⊢
  have hT9 := tx_len hI (hI.vk ha)
  have hI1 := hI.1
  refine lv_istore_n (lv' := [(3, .int (nI ((tx n lt tg (kn a)).length))), (0, .ref (q 0)), (1, .int (nI a)), (2, .int (nI pp))]) hx hb dX0_delete_15 rfl hl (by decide) rfl (fun ls hl => ?_)
  refine lv_aload_n hx hb dX0_delete_16 rfl (lv_at hl 1 rfl) ?_
  refine lv_iload_n hx hb dX0_delete_17 rfl (lv_at hl 3 rfl) ?_
  refine lv_iload_n hx hb dX0_delete_18 rfl (lv_at hl 0 rfl) ?_
  refine eg_callV (As := [.int (nI pp), .int (nI ((tx n lt tg (kn a)).length))]) (rest := []) hx hb hml hown hts hK hP (c_X0_checkPlace l D cI cJ q n mk lt tg pa an la kn fb fh nb te1 wt1 bh pp ((tx n lt tg (kn a)).length) hp (by omega)) (cwV 2 hts gX0_delete_X0_checkPlace rfl rfl rfl (by decide +kernel) ⟨Nat.le_of_ble_eq_true rfl, Nat.le_of_ble_eq_true rfl⟩) (va_recv hK hP (ci := 0) (q0 := 0) rfl rfl) rfl hl.1 rfl (Nat.le_of_ble_eq_true rfl) dX0_delete_19 ⟨Nat.zero_le _, Nat.zero_le _⟩ ?_
  refine lv_aload_n hx hb dX0_delete_22 rfl (lv_at hl 1 rfl) ?_
  refine eg_callV (As := []) (rest := []) hx hb hml hown hts hK hP (c_X0_checkRoom l D cI cJ q n mk lt tg pa an la kn fb fh nb te1 wt1 bh  hnr) (cwV 0 hts gX0_delete_X0_checkRoom rfl rfl rfl (by decide +kernel) ⟨Nat.le_of_ble_eq_true rfl, Nat.le_of_ble_eq_true rfl⟩) (va_recv hK hP (ci := 0) (q0 := 0) rfl rfl) rfl hl.1 rfl (Nat.le_of_ble_eq_true rfl) dX0_delete_23 ⟨Nat.zero_le _, Nat.zero_le _⟩ ?_
  refine lv_aload_n hx hb dX0_delete_26 rfl (lv_at hl 1 rfl) ?_
  refine lv_iload_n hx hb dX0_delete_27 rfl (lv_at hl 2 rfl) ?_
  refine lv_iconst (v := (-1)) hx hb dX0_delete_28 (by decide +kernel) ?_
  refine lv_aload_n hx hb dX0_delete_29 rfl (lv_at hl 1 rfl) ?_
  refine va_get (D := D) (ci := 0) (v := .ref (q 10)) (C := RX0) (T := TX0) (N := 14) hx hb hts hin hown hK hP 0 rfl rfl 11 (by decide) (hts (.fieldLink RX0 45 "EditGraph" "textEvents" "[I") (by decide +kernel)) (fun _ h9 => h9) rfl dX0_delete_30 ?_
  refine lv_iload_n hx hb dX0_delete_33 rfl (lv_at hl 3 rfl) ?_
  refine eg_iald hx hb hK hP 10 0 rfl rfl (by omega) (by decide) dX0_delete_34 ?_
  obtain ⟨x9, hx9⟩ := getq hp
  rw [hh1 _ _ hx9]
  refine eg_callWV (As := [.int (nI a), .int (-1), .int (nI x9)]) (rest := []) hx hb hml hown hts hK hP hD rfl hS (c_X0_addEvent l D cI cJ q n mk lt tg pa an la kn fb fh nb te1 wt1 bh a (-1) (nI x9) hnr ha) (cwV 3 hts gX0_delete_X0_addEvent rfl rfl rfl (by decide +kernel) ⟨Nat.le_of_ble_eq_true rfl, Nat.le_of_ble_eq_true rfl⟩) (va_recv hK hP (ci := 0) (q0 := 0) rfl rfl) rfl hl.1 rfl (Nat.le_of_ble_eq_true rfl) dX0_delete_35 ⟨Nat.zero_le _, Nat.zero_le _⟩ (fun v9 w9 H locs hR9 hw9 hP hS => ?_)
  obtain ⟨rfl, rfl⟩ := hR9
  exact W.iret hx hb hr (fun t9 ht9 _ => ⟨some (.int (nI n)), (wX q cI cJ (nI (n + 1)) (upd mk n (nI a)) (upd lt n (-1)) (upd tg n (nI x9)) (vp_updL pa n (hdX pa (kn a) n)) (vp_updL an n (kn a)) (mL la (kn a) n n) (vp_updL kn a (kn a ||| ol n)) fb fh nb te1 wt1 bh), rfl, ⟨x9, te1, wt1, hx9, rfl, rfl⟩, rfl, by rw [ht9]; exact hP, hS.F ht9⟩) hS.2.2 dX0_delete_38
end
section
-- the class's public calls that throw (by gen.py, specE.py)
set_option maxHeartbeats 4000000 in
set_option maxRecDepth 100000 in
theorem c_X0_insert_no1 (l : Launch) (D : va_G) (cI cJ : ClassId) (q : Nat → Nat) (n : Nat) (mk lt tg : Nat → Int32) (pa an la kn : Nat → Int64) (fb : Int32) (fh nb te wt bh : Nat → Int32) (x : Int32) (y : Int32) (c9 : Int32) (hbad : bad 4 x) (hfl : l.stackTraces = false) : eg_MX D (tyL cI cJ) l yX0_insert wsX0_insert ({ frames := 7, cells := 1, slots := 6, locals := 103 }) [.ref (q 0), .int x, .int y, .int c9] (wX q cI cJ (nI n) mk lt tg pa an la kn fb fh nb te wt bh) "java/lang/IndexOutOfBoundsException" (fun w1 => ∃ (te' wt' bh' : Nat → Int32), w1 = wX q cI cJ (nI n) mk lt tg pa an la kn fb fh nb te' wt' bh') := by
  refine vx_ofW (cc := cX0_insert) (maxL := 7) (ret := (some .int)) (by decide) rfl ?_
  intro p e s m args below meth c s₁ B hml htb hv
  obtain ⟨rfl, hP, hK, hD0, hT⟩ := hv
  have hx := B.exec
  have hb := B.bytes
  have hr := B.returns
  have hts := atoms_spec (ws := wsX0_insert) B.pre
  have hown : s.vm.findClass RX0 = some m.cls := findClass_of_methodNamed B.named
  have hlocks := B.notSynchronized
  have hD := eg_D_of hD0
  have hS : va_S (eg_A (wX q cI cJ (nI n) mk lt tg pa an la kn fb fh nb te wt bh)) s.heap s.heap [] := va_S.rf
  have hin : ∀ w ∈ u_ws RX0 TX0 14, w ∈ wsX0_insert := by decide +kernel
  have hl := lv_entry ([.ref (q 0), .int x, .int y, .int c9]) (n := 7) (Nat.le_of_ble_eq_true rfl)
  rw [lg_entry_eq]
  generalize (lg_sl ([.ref (q 0), .int x, .int y, .int c9]) ++ List.replicate (7 - (lg_sl ([.ref (q 0), .int x, .int y, .int c9])).length) Slot.unset).toArray = ls at hl ⊢
  have hl : lv_has ls 7 [(0, .ref (q 0)), (1, .int x), (2, .int y), (3, .int c9)] := hl
  generalize h0H : s.heap = H at hP ⊢
  have hS : va_S (eg_A (wX q cI cJ (nI n) mk lt tg pa an la kn fb fh nb te wt bh)) s.heap H [] := by rw [← h0H]; exact hS
  generalize ([] : List Loc) = locs at hS ⊢
  refine lv_aload_n hx hb dX0_insert_0 rfl (lv_at hl 0 rfl) ?_
  refine lv_iload_n hx hb dX0_insert_1 rfl (lv_at hl 1 rfl) ?_
  exact eg_callXout (As := [.int x]) (rest := []) hx hb hml hown hts hK hP hD rfl hS hT [0, 1, 2, 3, 4, 5, 6, 7, 8, 9, 10, 11, 12] rfl (by decide) (c_X0_checkAuthor_no l D cI cJ q n mk lt tg pa an la kn fb fh nb te wt bh x hbad hfl) (cwV 1 hts gX0_insert_X0_checkAuthor rfl rfl rfl (by decide +kernel) ⟨Nat.le_of_ble_eq_true rfl, Nat.le_of_ble_eq_true rfl⟩) (va_recv hK hP (ci := 0) (q0 := 0) rfl rfl) rfl hl.1 rfl (Nat.le_of_ble_eq_true rfl) dX0_insert_2 ⟨Nat.le_of_ble_eq_true rfl, Nat.le_of_ble_eq_true rfl⟩ htb hlocks (fun w1 h => ⟨_, _, _, h⟩)
set_option maxHeartbeats 4000000 in
set_option maxRecDepth 100000 in
theorem c_X0_delete_no1 (l : Launch) (D : va_G) (cI cJ : ClassId) (q : Nat → Nat) (n : Nat) (mk lt tg : Nat → Int32) (pa an la kn : Nat → Int64) (fb : Int32) (fh nb te wt bh : Nat → Int32) (x : Int32) (y : Int32) (hbad : bad 4 x) (hfl : l.stackTraces = false) : eg_MX D (tyL cI cJ) l yX0_delete wsX0_delete ({ frames := 7, cells := 1, slots := 6, locals := 103 }) [.ref (q 0), .int x, .int y] (wX q cI cJ (nI n) mk lt tg pa an la kn fb fh nb te wt bh) "java/lang/IndexOutOfBoundsException" (fun w1 => ∃ (te' wt' bh' : Nat → Int32), w1 = wX q cI cJ (nI n) mk lt tg pa an la kn fb fh nb te' wt' bh') := by
  refine vx_ofW (cc := cX0_delete) (maxL := 4) (ret := (some .int)) (by decide) rfl ?_
  intro p e s m args below meth c s₁ B hml htb hv
  obtain ⟨rfl, hP, hK, hD0, hT⟩ := hv
  have hx := B.exec
  have hb := B.bytes
  have hr := B.returns
  have hts := atoms_spec (ws := wsX0_delete) B.pre
  have hown : s.vm.findClass RX0 = some m.cls := findClass_of_methodNamed B.named
  have hlocks := B.notSynchronized
  have hD := eg_D_of hD0
  have hS : va_S (eg_A (wX q cI cJ (nI n) mk lt tg pa an la kn fb fh nb te wt bh)) s.heap s.heap [] := va_S.rf
  have hin : ∀ w ∈ u_ws RX0 TX0 14, w ∈ wsX0_delete := by decide +kernel
  have hl := lv_entry ([.ref (q 0), .int x, .int y]) (n := 4) (Nat.le_of_ble_eq_true rfl)
  rw [lg_entry_eq]
  generalize (lg_sl ([.ref (q 0), .int x, .int y]) ++ List.replicate (4 - (lg_sl ([.ref (q 0), .int x, .int y])).length) Slot.unset).toArray = ls at hl ⊢
  have hl : lv_has ls 4 [(0, .ref (q 0)), (1, .int x), (2, .int y)] := hl
  generalize h0H : s.heap = H at hP ⊢
  have hS : va_S (eg_A (wX q cI cJ (nI n) mk lt tg pa an la kn fb fh nb te wt bh)) s.heap H [] := by rw [← h0H]; exact hS
  generalize ([] : List Loc) = locs at hS ⊢
  refine lv_aload_n hx hb dX0_delete_0 rfl (lv_at hl 0 rfl) ?_
  refine lv_iload_n hx hb dX0_delete_1 rfl (lv_at hl 1 rfl) ?_
  exact eg_callXout (As := [.int x]) (rest := []) hx hb hml hown hts hK hP hD rfl hS hT [0, 1, 2, 3, 4, 5, 6, 7, 8, 9, 10, 11, 12] rfl (by decide) (c_X0_checkAuthor_no l D cI cJ q n mk lt tg pa an la kn fb fh nb te wt bh x hbad hfl) (cwV 1 hts gX0_delete_X0_checkAuthor rfl rfl rfl (by decide +kernel) ⟨Nat.le_of_ble_eq_true rfl, Nat.le_of_ble_eq_true rfl⟩) (va_recv hK hP (ci := 0) (q0 := 0) rfl rfl) rfl hl.1 rfl (Nat.le_of_ble_eq_true rfl) dX0_delete_2 ⟨Nat.le_of_ble_eq_true rfl, Nat.le_of_ble_eq_true rfl⟩ htb hlocks (fun w1 h => ⟨_, _, _, h⟩)
set_option maxHeartbeats 4000000 in
set_option maxRecDepth 100000 in
theorem c_X0_learn_no1 (l : Launch) (D : va_G) (cI cJ : ClassId) (q : Nat → Nat) (n : Nat) (mk lt tg : Nat → Int32) (pa an la kn : Nat → Int64) (fb : Int32) (fh nb te wt bh : Nat → Int32) (x : Int32) (y : Int32) (hbad : bad 4 x) (hfl : l.stackTraces = false) : eg_MX D (tyL cI cJ) l yX0_learn wsX0_learn ({ frames := 7, cells := 1, slots := 6, locals := 103 }) [.ref (q 0), .int x, .int y] (wX q cI cJ (nI n) mk lt tg pa an la kn fb fh nb te wt bh) "java/lang/IndexOutOfBoundsException" (fun w1 => ∃ (te' wt' bh' : Nat → Int32), w1 = wX q cI cJ (nI n) mk lt tg pa an la kn fb fh nb te' wt' bh') := by
  refine vx_ofW (cc := cX0_learn) (maxL := 3) (ret := (some .int)) (by decide) rfl ?_
  intro p e s m args below meth c s₁ B hml htb hv
  obtain ⟨rfl, hP, hK, hD0, hT⟩ := hv
  have hx := B.exec
  have hb := B.bytes
  have hr := B.returns
  have hts := atoms_spec (ws := wsX0_learn) B.pre
  have hown : s.vm.findClass RX0 = some m.cls := findClass_of_methodNamed B.named
  have hlocks := B.notSynchronized
  have hD := eg_D_of hD0
  have hS : va_S (eg_A (wX q cI cJ (nI n) mk lt tg pa an la kn fb fh nb te wt bh)) s.heap s.heap [] := va_S.rf
  have hin : ∀ w ∈ u_ws RX0 TX0 14, w ∈ wsX0_learn := by decide +kernel
  have hl := lv_entry ([.ref (q 0), .int x, .int y]) (n := 3) (Nat.le_of_ble_eq_true rfl)
  rw [lg_entry_eq]
  generalize (lg_sl ([.ref (q 0), .int x, .int y]) ++ List.replicate (3 - (lg_sl ([.ref (q 0), .int x, .int y])).length) Slot.unset).toArray = ls at hl ⊢
  have hl : lv_has ls 3 [(0, .ref (q 0)), (1, .int x), (2, .int y)] := hl
  generalize h0H : s.heap = H at hP ⊢
  have hS : va_S (eg_A (wX q cI cJ (nI n) mk lt tg pa an la kn fb fh nb te wt bh)) s.heap H [] := by rw [← h0H]; exact hS
  generalize ([] : List Loc) = locs at hS ⊢
  refine lv_aload_n hx hb dX0_learn_0 rfl (lv_at hl 0 rfl) ?_
  refine lv_iload_n hx hb dX0_learn_1 rfl (lv_at hl 1 rfl) ?_
  exact eg_callXout (As := [.int x]) (rest := []) hx hb hml hown hts hK hP hD rfl hS hT [0, 1, 2, 3, 4, 5, 6, 7, 8, 9, 10, 11, 12] rfl (by decide) (c_X0_checkAuthor_no l D cI cJ q n mk lt tg pa an la kn fb fh nb te wt bh x hbad hfl) (cwV 1 hts gX0_learn_X0_checkAuthor rfl rfl rfl (by decide +kernel) ⟨Nat.le_of_ble_eq_true rfl, Nat.le_of_ble_eq_true rfl⟩) (va_recv hK hP (ci := 0) (q0 := 0) rfl rfl) rfl hl.1 rfl (Nat.le_of_ble_eq_true rfl) dX0_learn_2 ⟨Nat.le_of_ble_eq_true rfl, Nat.le_of_ble_eq_true rfl⟩ htb hlocks (fun w1 h => ⟨_, _, _, h⟩)
set_option maxHeartbeats 4000000 in
set_option maxRecDepth 100000 in
theorem c_X0_learnEvent_no1 (l : Launch) (D : va_G) (cI cJ : ClassId) (q : Nat → Nat) (n : Nat) (mk lt tg : Nat → Int32) (pa an la kn : Nat → Int64) (fb : Int32) (fh nb te wt bh : Nat → Int32) (x : Int32) (y : Int32) (hbad : bad 4 x) (hfl : l.stackTraces = false) : eg_MX D (tyL cI cJ) l yX0_learnEvent wsX0_learnEvent ({ frames := 7, cells := 1, slots := 6, locals := 103 }) [.ref (q 0), .int x, .int y] (wX q cI cJ (nI n) mk lt tg pa an la kn fb fh nb te wt bh) "java/lang/IndexOutOfBoundsException" (fun w1 => ∃ (te' wt' bh' : Nat → Int32), w1 = wX q cI cJ (nI n) mk lt tg pa an la kn fb fh nb te' wt' bh') := by
  refine vx_ofW (cc := cX0_learnEvent) (maxL := 3) (ret := (some .int)) (by decide) rfl ?_
  intro p e s m args below meth c s₁ B hml htb hv
  obtain ⟨rfl, hP, hK, hD0, hT⟩ := hv
  have hx := B.exec
  have hb := B.bytes
  have hr := B.returns
  have hts := atoms_spec (ws := wsX0_learnEvent) B.pre
  have hown : s.vm.findClass RX0 = some m.cls := findClass_of_methodNamed B.named
  have hlocks := B.notSynchronized
  have hD := eg_D_of hD0
  have hS : va_S (eg_A (wX q cI cJ (nI n) mk lt tg pa an la kn fb fh nb te wt bh)) s.heap s.heap [] := va_S.rf
  have hl := lv_entry ([.ref (q 0), .int x, .int y]) (n := 3) (Nat.le_of_ble_eq_true rfl)
  rw [lg_entry_eq]
  generalize (lg_sl ([.ref (q 0), .int x, .int y]) ++ List.replicate (3 - (lg_sl ([.ref (q 0), .int x, .int y])).length) Slot.unset).toArray = ls at hl ⊢
  have hl : lv_has ls 3 [(0, .ref (q 0)), (1, .int x), (2, .int y)] := hl
  generalize h0H : s.heap = H at hP ⊢
  have hS : va_S (eg_A (wX q cI cJ (nI n) mk lt tg pa an la kn fb fh nb te wt bh)) s.heap H [] := by rw [← h0H]; exact hS
  generalize ([] : List Loc) = locs at hS ⊢
  refine lv_aload_n hx hb dX0_learnEvent_0 rfl (lv_at hl 0 rfl) ?_
  refine lv_iload_n hx hb dX0_learnEvent_1 rfl (lv_at hl 1 rfl) ?_
  exact eg_callXout (As := [.int x]) (rest := []) hx hb hml hown hts hK hP hD rfl hS hT [0, 1, 2, 3, 4, 5, 6, 7, 8, 9, 10, 11, 12] rfl (by decide) (c_X0_checkAuthor_no l D cI cJ q n mk lt tg pa an la kn fb fh nb te wt bh x hbad hfl) (cwV 1 hts gX0_learnEvent_X0_checkAuthor rfl rfl rfl (by decide +kernel) ⟨Nat.le_of_ble_eq_true rfl, Nat.le_of_ble_eq_true rfl⟩) (va_recv hK hP (ci := 0) (q0 := 0) rfl rfl) rfl hl.1 rfl (Nat.le_of_ble_eq_true rfl) dX0_learnEvent_2 ⟨Nat.le_of_ble_eq_true rfl, Nat.le_of_ble_eq_true rfl⟩ htb hlocks (fun w1 h => ⟨_, _, _, h⟩)
set_option maxHeartbeats 4000000 in
set_option maxRecDepth 100000 in
theorem c_X0_length_no1 (l : Launch) (D : va_G) (cI cJ : ClassId) (q : Nat → Nat) (n : Nat) (mk lt tg : Nat → Int32) (pa an la kn : Nat → Int64) (fb : Int32) (fh nb te wt bh : Nat → Int32) (x : Int32) (hbad : bad 4 x) (hfl : l.stackTraces = false) : eg_MX D (tyL cI cJ) l yX0_length wsX0_length ({ frames := 7, cells := 1, slots := 6, locals := 103 }) [.ref (q 0), .int x] (wX q cI cJ (nI n) mk lt tg pa an la kn fb fh nb te wt bh) "java/lang/IndexOutOfBoundsException" (fun w1 => ∃ (te' wt' bh' : Nat → Int32), w1 = wX q cI cJ (nI n) mk lt tg pa an la kn fb fh nb te' wt' bh') := by
  refine vx_ofW (cc := cX0_length) (maxL := 2) (ret := (some .int)) (by decide) rfl ?_
  intro p e s m args below meth c s₁ B hml htb hv
  obtain ⟨rfl, hP, hK, hD0, hT⟩ := hv
  have hx := B.exec
  have hb := B.bytes
  have hr := B.returns
  have hts := atoms_spec (ws := wsX0_length) B.pre
  have hown : s.vm.findClass RX0 = some m.cls := findClass_of_methodNamed B.named
  have hlocks := B.notSynchronized
  have hD := eg_D_of hD0
  have hS : va_S (eg_A (wX q cI cJ (nI n) mk lt tg pa an la kn fb fh nb te wt bh)) s.heap s.heap [] := va_S.rf
  have hin : ∀ w ∈ u_ws RX0 TX0 14, w ∈ wsX0_length := by decide +kernel
  have hl := lv_entry ([.ref (q 0), .int x]) (n := 2) (Nat.le_of_ble_eq_true rfl)
  rw [lg_entry_eq]
  generalize (lg_sl ([.ref (q 0), .int x]) ++ List.replicate (2 - (lg_sl ([.ref (q 0), .int x])).length) Slot.unset).toArray = ls at hl ⊢
  have hl : lv_has ls 2 [(0, .ref (q 0)), (1, .int x)] := hl
  generalize h0H : s.heap = H at hP ⊢
  have hS : va_S (eg_A (wX q cI cJ (nI n) mk lt tg pa an la kn fb fh nb te wt bh)) s.heap H [] := by rw [← h0H]; exact hS
  generalize ([] : List Loc) = locs at hS ⊢
  refine lv_aload_n hx hb dX0_length_0 rfl (lv_at hl 0 rfl) ?_
  refine lv_iload_n hx hb dX0_length_1 rfl (lv_at hl 1 rfl) ?_
  exact eg_callXout (As := [.int x]) (rest := []) hx hb hml hown hts hK hP hD rfl hS hT [0, 1, 2, 3, 4, 5, 6, 7, 8, 9, 10, 11, 12] rfl (by decide) (c_X0_checkAuthor_no l D cI cJ q n mk lt tg pa an la kn fb fh nb te wt bh x hbad hfl) (cwV 1 hts gX0_length_X0_checkAuthor rfl rfl rfl (by decide +kernel) ⟨Nat.le_of_ble_eq_true rfl, Nat.le_of_ble_eq_true rfl⟩) (va_recv hK hP (ci := 0) (q0 := 0) rfl rfl) rfl hl.1 rfl (Nat.le_of_ble_eq_true rfl) dX0_length_2 ⟨Nat.le_of_ble_eq_true rfl, Nat.le_of_ble_eq_true rfl⟩ htb hlocks (fun w1 h => ⟨_, _, _, h⟩)
set_option maxHeartbeats 4000000 in
set_option maxRecDepth 100000 in
theorem c_X0_letterAt_no1 (l : Launch) (D : va_G) (cI cJ : ClassId) (q : Nat → Nat) (n : Nat) (mk lt tg : Nat → Int32) (pa an la kn : Nat → Int64) (fb : Int32) (fh nb te wt bh : Nat → Int32) (x : Int32) (y : Int32) (hbad : bad 4 x) (hfl : l.stackTraces = false) : eg_MX D (tyL cI cJ) l yX0_letterAt wsX0_letterAt ({ frames := 7, cells := 1, slots := 6, locals := 103 }) [.ref (q 0), .int x, .int y] (wX q cI cJ (nI n) mk lt tg pa an la kn fb fh nb te wt bh) "java/lang/IndexOutOfBoundsException" (fun w1 => ∃ (te' wt' bh' : Nat → Int32), w1 = wX q cI cJ (nI n) mk lt tg pa an la kn fb fh nb te' wt' bh') := by
  refine vx_ofW (cc := cX0_letterAt) (maxL := 3) (ret := (some .int)) (by decide) rfl ?_
  intro p e s m args below meth c s₁ B hml htb hv
  obtain ⟨rfl, hP, hK, hD0, hT⟩ := hv
  have hx := B.exec
  have hb := B.bytes
  have hr := B.returns
  have hts := atoms_spec (ws := wsX0_letterAt) B.pre
  have hown : s.vm.findClass RX0 = some m.cls := findClass_of_methodNamed B.named
  have hlocks := B.notSynchronized
  have hD := eg_D_of hD0
  have hS : va_S (eg_A (wX q cI cJ (nI n) mk lt tg pa an la kn fb fh nb te wt bh)) s.heap s.heap [] := va_S.rf
  have hin : ∀ w ∈ u_ws RX0 TX0 14, w ∈ wsX0_letterAt := by decide +kernel
  have hl := lv_entry ([.ref (q 0), .int x, .int y]) (n := 3) (Nat.le_of_ble_eq_true rfl)
  rw [lg_entry_eq]
  generalize (lg_sl ([.ref (q 0), .int x, .int y]) ++ List.replicate (3 - (lg_sl ([.ref (q 0), .int x, .int y])).length) Slot.unset).toArray = ls at hl ⊢
  have hl : lv_has ls 3 [(0, .ref (q 0)), (1, .int x), (2, .int y)] := hl
  generalize h0H : s.heap = H at hP ⊢
  have hS : va_S (eg_A (wX q cI cJ (nI n) mk lt tg pa an la kn fb fh nb te wt bh)) s.heap H [] := by rw [← h0H]; exact hS
  generalize ([] : List Loc) = locs at hS ⊢
  refine lv_aload_n hx hb dX0_letterAt_0 rfl (lv_at hl 0 rfl) ?_
  refine lv_iload_n hx hb dX0_letterAt_1 rfl (lv_at hl 1 rfl) ?_
  exact eg_callXout (As := [.int x]) (rest := []) hx hb hml hown hts hK hP hD rfl hS hT [0, 1, 2, 3, 4, 5, 6, 7, 8, 9, 10, 11, 12] rfl (by decide) (c_X0_checkAuthor_no l D cI cJ q n mk lt tg pa an la kn fb fh nb te wt bh x hbad hfl) (cwV 1 hts gX0_letterAt_X0_checkAuthor rfl rfl rfl (by decide +kernel) ⟨Nat.le_of_ble_eq_true rfl, Nat.le_of_ble_eq_true rfl⟩) (va_recv hK hP (ci := 0) (q0 := 0) rfl rfl) rfl hl.1 rfl (Nat.le_of_ble_eq_true rfl) dX0_letterAt_2 ⟨Nat.le_of_ble_eq_true rfl, Nat.le_of_ble_eq_true rfl⟩ htb hlocks (fun w1 h => ⟨_, _, _, h⟩)
set_option maxHeartbeats 4000000 in
set_option maxRecDepth 100000 in
theorem c_X0_letterByList_no1 (l : Launch) (D : va_G) (cI cJ : ClassId) (q : Nat → Nat) (n : Nat) (mk lt tg : Nat → Int32) (pa an la kn : Nat → Int64) (fb : Int32) (fh nb te wt bh : Nat → Int32) (x : Int32) (y : Int32) (hbad : bad 4 x) (hfl : l.stackTraces = false) : eg_MX D (tyL cI cJ) l yX0_letterByList wsX0_letterByList ({ frames := 7, cells := 1, slots := 6, locals := 103 }) [.ref (q 0), .int x, .int y] (wX q cI cJ (nI n) mk lt tg pa an la kn fb fh nb te wt bh) "java/lang/IndexOutOfBoundsException" (fun w1 => ∃ (te' wt' bh' : Nat → Int32), w1 = wX q cI cJ (nI n) mk lt tg pa an la kn fb fh nb te' wt' bh') := by
  refine vx_ofW (cc := cX0_letterByList) (maxL := 4) (ret := (some .int)) (by decide) rfl ?_
  intro p e s m args below meth c s₁ B hml htb hv
  obtain ⟨rfl, hP, hK, hD0, hT⟩ := hv
  have hx := B.exec
  have hb := B.bytes
  have hr := B.returns
  have hts := atoms_spec (ws := wsX0_letterByList) B.pre
  have hown : s.vm.findClass RX0 = some m.cls := findClass_of_methodNamed B.named
  have hlocks := B.notSynchronized
  have hD := eg_D_of hD0
  have hS : va_S (eg_A (wX q cI cJ (nI n) mk lt tg pa an la kn fb fh nb te wt bh)) s.heap s.heap [] := va_S.rf
  have hin : ∀ w ∈ u_ws RX0 TX0 14, w ∈ wsX0_letterByList := by decide +kernel
  have hl := lv_entry ([.ref (q 0), .int x, .int y]) (n := 4) (Nat.le_of_ble_eq_true rfl)
  rw [lg_entry_eq]
  generalize (lg_sl ([.ref (q 0), .int x, .int y]) ++ List.replicate (4 - (lg_sl ([.ref (q 0), .int x, .int y])).length) Slot.unset).toArray = ls at hl ⊢
  have hl : lv_has ls 4 [(0, .ref (q 0)), (1, .int x), (2, .int y)] := hl
  generalize h0H : s.heap = H at hP ⊢
  have hS : va_S (eg_A (wX q cI cJ (nI n) mk lt tg pa an la kn fb fh nb te wt bh)) s.heap H [] := by rw [← h0H]; exact hS
  generalize ([] : List Loc) = locs at hS ⊢
  refine lv_aload_n hx hb dX0_letterByList_0 rfl (lv_at hl 0 rfl) ?_
  refine lv_iload_n hx hb dX0_letterByList_1 rfl (lv_at hl 1 rfl) ?_
  exact eg_callXout (As := [.int x]) (rest := []) hx hb hml hown hts hK hP hD rfl hS hT [0, 1, 2, 3, 4, 5, 6, 7, 8, 9, 10, 11, 12] rfl (by decide) (c_X0_checkAuthor_no l D cI cJ q n mk lt tg pa an la kn fb fh nb te wt bh x hbad hfl) (cwV 1 hts gX0_letterByList_X0_checkAuthor rfl rfl rfl (by decide +kernel) ⟨Nat.le_of_ble_eq_true rfl, Nat.le_of_ble_eq_true rfl⟩) (va_recv hK hP (ci := 0) (q0 := 0) rfl rfl) rfl hl.1 rfl (Nat.le_of_ble_eq_true rfl) dX0_letterByList_2 ⟨Nat.le_of_ble_eq_true rfl, Nat.le_of_ble_eq_true rfl⟩ htb hlocks (fun w1 h => ⟨_, _, _, h⟩)
set_option maxHeartbeats 4000000 in
set_option maxRecDepth 100000 in
theorem c_X0_eventAt_no1 (l : Launch) (D : va_G) (cI cJ : ClassId) (q : Nat → Nat) (n : Nat) (mk lt tg : Nat → Int32) (pa an la kn : Nat → Int64) (fb : Int32) (fh nb te wt bh : Nat → Int32) (x : Int32) (y : Int32) (hbad : bad 4 x) (hfl : l.stackTraces = false) : eg_MX D (tyL cI cJ) l yX0_eventAt wsX0_eventAt ({ frames := 7, cells := 1, slots := 6, locals := 103 }) [.ref (q 0), .int x, .int y] (wX q cI cJ (nI n) mk lt tg pa an la kn fb fh nb te wt bh) "java/lang/IndexOutOfBoundsException" (fun w1 => ∃ (te' wt' bh' : Nat → Int32), w1 = wX q cI cJ (nI n) mk lt tg pa an la kn fb fh nb te' wt' bh') := by
  refine vx_ofW (cc := cX0_eventAt) (maxL := 3) (ret := (some .int)) (by decide) rfl ?_
  intro p e s m args below meth c s₁ B hml htb hv
  obtain ⟨rfl, hP, hK, hD0, hT⟩ := hv
  have hx := B.exec
  have hb := B.bytes
  have hr := B.returns
  have hts := atoms_spec (ws := wsX0_eventAt) B.pre
  have hown : s.vm.findClass RX0 = some m.cls := findClass_of_methodNamed B.named
  have hlocks := B.notSynchronized
  have hD := eg_D_of hD0
  have hS : va_S (eg_A (wX q cI cJ (nI n) mk lt tg pa an la kn fb fh nb te wt bh)) s.heap s.heap [] := va_S.rf
  have hin : ∀ w ∈ u_ws RX0 TX0 14, w ∈ wsX0_eventAt := by decide +kernel
  have hl := lv_entry ([.ref (q 0), .int x, .int y]) (n := 3) (Nat.le_of_ble_eq_true rfl)
  rw [lg_entry_eq]
  generalize (lg_sl ([.ref (q 0), .int x, .int y]) ++ List.replicate (3 - (lg_sl ([.ref (q 0), .int x, .int y])).length) Slot.unset).toArray = ls at hl ⊢
  have hl : lv_has ls 3 [(0, .ref (q 0)), (1, .int x), (2, .int y)] := hl
  generalize h0H : s.heap = H at hP ⊢
  have hS : va_S (eg_A (wX q cI cJ (nI n) mk lt tg pa an la kn fb fh nb te wt bh)) s.heap H [] := by rw [← h0H]; exact hS
  generalize ([] : List Loc) = locs at hS ⊢
  refine lv_aload_n hx hb dX0_eventAt_0 rfl (lv_at hl 0 rfl) ?_
  refine lv_iload_n hx hb dX0_eventAt_1 rfl (lv_at hl 1 rfl) ?_
  exact eg_callXout (As := [.int x]) (rest := []) hx hb hml hown hts hK hP hD rfl hS hT [0, 1, 2, 3, 4, 5, 6, 7, 8, 9, 10, 11, 12] rfl (by decide) (c_X0_checkAuthor_no l D cI cJ q n mk lt tg pa an la kn fb fh nb te wt bh x hbad hfl) (cwV 1 hts gX0_eventAt_X0_checkAuthor rfl rfl rfl (by decide +kernel) ⟨Nat.le_of_ble_eq_true rfl, Nat.le_of_ble_eq_true rfl⟩) (va_recv hK hP (ci := 0) (q0 := 0) rfl rfl) rfl hl.1 rfl (Nat.le_of_ble_eq_true rfl) dX0_eventAt_2 ⟨Nat.le_of_ble_eq_true rfl, Nat.le_of_ble_eq_true rfl⟩ htb hlocks (fun w1 h => ⟨_, _, _, h⟩)
set_option maxHeartbeats 4000000 in
set_option maxRecDepth 100000 in
theorem c_X0_lettersBy_no1 (l : Launch) (D : va_G) (cI cJ : ClassId) (q : Nat → Nat) (n : Nat) (mk lt tg : Nat → Int32) (pa an la kn : Nat → Int64) (fb : Int32) (fh nb te wt bh : Nat → Int32) (x : Int32) (y : Int32) (hbad : bad 4 x) (hfl : l.stackTraces = false) : eg_MX D (tyL cI cJ) l yX0_lettersBy wsX0_lettersBy ({ frames := 7, cells := 1, slots := 6, locals := 103 }) [.ref (q 0), .int x, .int y] (wX q cI cJ (nI n) mk lt tg pa an la kn fb fh nb te wt bh) "java/lang/IndexOutOfBoundsException" (fun w1 => ∃ (te' wt' bh' : Nat → Int32), w1 = wX q cI cJ (nI n) mk lt tg pa an la kn fb fh nb te' wt' bh') := by
  refine vx_ofW (cc := cX0_lettersBy) (maxL := 6) (ret := (some .int)) (by decide) rfl ?_
  intro p e s m args below meth c s₁ B hml htb hv
  obtain ⟨rfl, hP, hK, hD0, hT⟩ := hv
  have hx := B.exec
  have hb := B.bytes
  have hr := B.returns
  have hts := atoms_spec (ws := wsX0_lettersBy) B.pre
  have hown : s.vm.findClass RX0 = some m.cls := findClass_of_methodNamed B.named
  have hlocks := B.notSynchronized
  have hD := eg_D_of hD0
  have hS : va_S (eg_A (wX q cI cJ (nI n) mk lt tg pa an la kn fb fh nb te wt bh)) s.heap s.heap [] := va_S.rf
  have hin : ∀ w ∈ u_ws RX0 TX0 14, w ∈ wsX0_lettersBy := by decide +kernel
  have hl := lv_entry ([.ref (q 0), .int x, .int y]) (n := 6) (Nat.le_of_ble_eq_true rfl)
  rw [lg_entry_eq]
  generalize (lg_sl ([.ref (q 0), .int x, .int y]) ++ List.replicate (6 - (lg_sl ([.ref (q 0), .int x, .int y])).length) Slot.unset).toArray = ls at hl ⊢
  have hl : lv_has ls 6 [(0, .ref (q 0)), (1, .int x), (2, .int y)] := hl
  generalize h0H : s.heap = H at hP ⊢
  have hS : va_S (eg_A (wX q cI cJ (nI n) mk lt tg pa an la kn fb fh nb te wt bh)) s.heap H [] := by rw [← h0H]; exact hS
  generalize ([] : List Loc) = locs at hS ⊢
  refine lv_aload_n hx hb dX0_lettersBy_0 rfl (lv_at hl 0 rfl) ?_
  refine lv_iload_n hx hb dX0_lettersBy_1 rfl (lv_at hl 1 rfl) ?_
  exact eg_callXout (As := [.int x]) (rest := []) hx hb hml hown hts hK hP hD rfl hS hT [0, 1, 2, 3, 4, 5, 6, 7, 8, 9, 10, 11, 12] rfl (by decide) (c_X0_checkAuthor_no l D cI cJ q n mk lt tg pa an la kn fb fh nb te wt bh x hbad hfl) (cwV 1 hts gX0_lettersBy_X0_checkAuthor rfl rfl rfl (by decide +kernel) ⟨Nat.le_of_ble_eq_true rfl, Nat.le_of_ble_eq_true rfl⟩) (va_recv hK hP (ci := 0) (q0 := 0) rfl rfl) rfl hl.1 rfl (Nat.le_of_ble_eq_true rfl) dX0_lettersBy_2 ⟨Nat.le_of_ble_eq_true rfl, Nat.le_of_ble_eq_true rfl⟩ htb hlocks (fun w1 h => ⟨_, _, _, h⟩)
set_option maxHeartbeats 4000000 in
set_option maxRecDepth 100000 in
theorem c_X0_version_no1 (l : Launch) (D : va_G) (cI cJ : ClassId) (q : Nat → Nat) (n : Nat) (mk lt tg : Nat → Int32) (pa an la kn : Nat → Int64) (fb : Int32) (fh nb te wt bh : Nat → Int32) (x : Int32) (hbad : bad 4 x) (hfl : l.stackTraces = false) : eg_MX D (tyL cI cJ) l yX0_version wsX0_version ({ frames := 7, cells := 1, slots := 6, locals := 103 }) [.ref (q 0), .int x] (wX q cI cJ (nI n) mk lt tg pa an la kn fb fh nb te wt bh) "java/lang/IndexOutOfBoundsException" (fun w1 => ∃ (te' wt' bh' : Nat → Int32), w1 = wX q cI cJ (nI n) mk lt tg pa an la kn fb fh nb te' wt' bh') := by
  refine vx_ofW (cc := cX0_version) (maxL := 2) (ret := (some .long)) (by decide) rfl ?_
  intro p e s m args below meth c s₁ B hml htb hv
  obtain ⟨rfl, hP, hK, hD0, hT⟩ := hv
  have hx := B.exec
  have hb := B.bytes
  have hr := B.returns
  have hts := atoms_spec (ws := wsX0_version) B.pre
  have hown : s.vm.findClass RX0 = some m.cls := findClass_of_methodNamed B.named
  have hlocks := B.notSynchronized
  have hD := eg_D_of hD0
  have hS : va_S (eg_A (wX q cI cJ (nI n) mk lt tg pa an la kn fb fh nb te wt bh)) s.heap s.heap [] := va_S.rf
  have hin : ∀ w ∈ u_ws RX0 TX0 14, w ∈ wsX0_version := by decide +kernel
  have hl := lv_entry ([.ref (q 0), .int x]) (n := 2) (Nat.le_of_ble_eq_true rfl)
  rw [lg_entry_eq]
  generalize (lg_sl ([.ref (q 0), .int x]) ++ List.replicate (2 - (lg_sl ([.ref (q 0), .int x])).length) Slot.unset).toArray = ls at hl ⊢
  have hl : lv_has ls 2 [(0, .ref (q 0)), (1, .int x)] := hl
  generalize h0H : s.heap = H at hP ⊢
  have hS : va_S (eg_A (wX q cI cJ (nI n) mk lt tg pa an la kn fb fh nb te wt bh)) s.heap H [] := by rw [← h0H]; exact hS
  generalize ([] : List Loc) = locs at hS ⊢
  refine lv_aload_n hx hb dX0_version_0 rfl (lv_at hl 0 rfl) ?_
  refine lv_iload_n hx hb dX0_version_1 rfl (lv_at hl 1 rfl) ?_
  exact eg_callXout (As := [.int x]) (rest := []) hx hb hml hown hts hK hP hD rfl hS hT [0, 1, 2, 3, 4, 5, 6, 7, 8, 9, 10, 11, 12] rfl (by decide) (c_X0_checkAuthor_no l D cI cJ q n mk lt tg pa an la kn fb fh nb te wt bh x hbad hfl) (cwV 1 hts gX0_version_X0_checkAuthor rfl rfl rfl (by decide +kernel) ⟨Nat.le_of_ble_eq_true rfl, Nat.le_of_ble_eq_true rfl⟩) (va_recv hK hP (ci := 0) (q0 := 0) rfl rfl) rfl hl.1 rfl (Nat.le_of_ble_eq_true rfl) dX0_version_2 ⟨Nat.le_of_ble_eq_true rfl, Nat.le_of_ble_eq_true rfl⟩ htb hlocks (fun w1 h => ⟨_, _, _, h⟩)
set_option maxHeartbeats 4000000 in
set_option maxRecDepth 100000 in
theorem c_X0_heads_no1 (l : Launch) (D : va_G) (cI cJ : ClassId) (q : Nat → Nat) (n : Nat) (mk lt tg : Nat → Int32) (pa an la kn : Nat → Int64) (fb : Int32) (fh nb te wt bh : Nat → Int32) (x : Int32) (hbad : bad 4 x) (hfl : l.stackTraces = false) : eg_MX D (tyL cI cJ) l yX0_heads wsX0_heads ({ frames := 7, cells := 1, slots := 6, locals := 103 }) [.ref (q 0), .int x] (wX q cI cJ (nI n) mk lt tg pa an la kn fb fh nb te wt bh) "java/lang/IndexOutOfBoundsException" (fun w1 => ∃ (te' wt' bh' : Nat → Int32), w1 = wX q cI cJ (nI n) mk lt tg pa an la kn fb fh nb te' wt' bh') := by
  refine vx_ofW (cc := cX0_heads) (maxL := 2) (ret := (some .long)) (by decide) rfl ?_
  intro p e s m args below meth c s₁ B hml htb hv
  obtain ⟨rfl, hP, hK, hD0, hT⟩ := hv
  have hx := B.exec
  have hb := B.bytes
  have hr := B.returns
  have hts := atoms_spec (ws := wsX0_heads) B.pre
  have hown : s.vm.findClass RX0 = some m.cls := findClass_of_methodNamed B.named
  have hlocks := B.notSynchronized
  have hD := eg_D_of hD0
  have hS : va_S (eg_A (wX q cI cJ (nI n) mk lt tg pa an la kn fb fh nb te wt bh)) s.heap s.heap [] := va_S.rf
  have hin : ∀ w ∈ u_ws RX0 TX0 14, w ∈ wsX0_heads := by decide +kernel
  have hl := lv_entry ([.ref (q 0), .int x]) (n := 2) (Nat.le_of_ble_eq_true rfl)
  rw [lg_entry_eq]
  generalize (lg_sl ([.ref (q 0), .int x]) ++ List.replicate (2 - (lg_sl ([.ref (q 0), .int x])).length) Slot.unset).toArray = ls at hl ⊢
  have hl : lv_has ls 2 [(0, .ref (q 0)), (1, .int x)] := hl
  generalize h0H : s.heap = H at hP ⊢
  have hS : va_S (eg_A (wX q cI cJ (nI n) mk lt tg pa an la kn fb fh nb te wt bh)) s.heap H [] := by rw [← h0H]; exact hS
  generalize ([] : List Loc) = locs at hS ⊢
  refine lv_aload_n hx hb dX0_heads_0 rfl (lv_at hl 0 rfl) ?_
  refine lv_iload_n hx hb dX0_heads_1 rfl (lv_at hl 1 rfl) ?_
  exact eg_callXout (As := [.int x]) (rest := []) hx hb hml hown hts hK hP hD rfl hS hT [0, 1, 2, 3, 4, 5, 6, 7, 8, 9, 10, 11, 12] rfl (by decide) (c_X0_checkAuthor_no l D cI cJ q n mk lt tg pa an la kn fb fh nb te wt bh x hbad hfl) (cwV 1 hts gX0_heads_X0_checkAuthor rfl rfl rfl (by decide +kernel) ⟨Nat.le_of_ble_eq_true rfl, Nat.le_of_ble_eq_true rfl⟩) (va_recv hK hP (ci := 0) (q0 := 0) rfl rfl) rfl hl.1 rfl (Nat.le_of_ble_eq_true rfl) dX0_heads_2 ⟨Nat.le_of_ble_eq_true rfl, Nat.le_of_ble_eq_true rfl⟩ htb hlocks (fun w1 h => ⟨_, _, _, h⟩)
set_option maxHeartbeats 4000000 in
set_option maxRecDepth 100000 in
theorem c_X0_commonHeads_no1 (l : Launch) (D : va_G) (cI cJ : ClassId) (q : Nat → Nat) (n : Nat) (mk lt tg : Nat → Int32) (pa an la kn : Nat → Int64) (fb : Int32) (fh nb te wt bh : Nat → Int32) (x : Int32) (y : Int32) (hbad : bad 4 x) (hfl : l.stackTraces = false) : eg_MX D (tyL cI cJ) l yX0_commonHeads wsX0_commonHeads ({ frames := 7, cells := 1, slots := 6, locals := 103 }) [.ref (q 0), .int x, .int y] (wX q cI cJ (nI n) mk lt tg pa an la kn fb fh nb te wt bh) "java/lang/IndexOutOfBoundsException" (fun w1 => ∃ (te' wt' bh' : Nat → Int32), w1 = wX q cI cJ (nI n) mk lt tg pa an la kn fb fh nb te' wt' bh') := by
  refine vx_ofW (cc := cX0_commonHeads) (maxL := 3) (ret := (some .long)) (by decide) rfl ?_
  intro p e s m args below meth c s₁ B hml htb hv
  obtain ⟨rfl, hP, hK, hD0, hT⟩ := hv
  have hx := B.exec
  have hb := B.bytes
  have hr := B.returns
  have hts := atoms_spec (ws := wsX0_commonHeads) B.pre
  have hown : s.vm.findClass RX0 = some m.cls := findClass_of_methodNamed B.named
  have hlocks := B.notSynchronized
  have hD := eg_D_of hD0
  have hS : va_S (eg_A (wX q cI cJ (nI n) mk lt tg pa an la kn fb fh nb te wt bh)) s.heap s.heap [] := va_S.rf
  have hin : ∀ w ∈ u_ws RX0 TX0 14, w ∈ wsX0_commonHeads := by decide +kernel
  have hl := lv_entry ([.ref (q 0), .int x, .int y]) (n := 3) (Nat.le_of_ble_eq_true rfl)
  rw [lg_entry_eq]
  generalize (lg_sl ([.ref (q 0), .int x, .int y]) ++ List.replicate (3 - (lg_sl ([.ref (q 0), .int x, .int y])).length) Slot.unset).toArray = ls at hl ⊢
  have hl : lv_has ls 3 [(0, .ref (q 0)), (1, .int x), (2, .int y)] := hl
  generalize h0H : s.heap = H at hP ⊢
  have hS : va_S (eg_A (wX q cI cJ (nI n) mk lt tg pa an la kn fb fh nb te wt bh)) s.heap H [] := by rw [← h0H]; exact hS
  generalize ([] : List Loc) = locs at hS ⊢
  refine lv_aload_n hx hb dX0_commonHeads_0 rfl (lv_at hl 0 rfl) ?_
  refine lv_iload_n hx hb dX0_commonHeads_1 rfl (lv_at hl 1 rfl) ?_
  exact eg_callXout (As := [.int x]) (rest := []) hx hb hml hown hts hK hP hD rfl hS hT [0, 1, 2, 3, 4, 5, 6, 7, 8, 9, 10, 11, 12] rfl (by decide) (c_X0_checkAuthor_no l D cI cJ q n mk lt tg pa an la kn fb fh nb te wt bh x hbad hfl) (cwV 1 hts gX0_commonHeads_X0_checkAuthor rfl rfl rfl (by decide +kernel) ⟨Nat.le_of_ble_eq_true rfl, Nat.le_of_ble_eq_true rfl⟩) (va_recv hK hP (ci := 0) (q0 := 0) rfl rfl) rfl hl.1 rfl (Nat.le_of_ble_eq_true rfl) dX0_commonHeads_2 ⟨Nat.le_of_ble_eq_true rfl, Nat.le_of_ble_eq_true rfl⟩ htb hlocks (fun w1 h => ⟨_, _, _, h⟩)
set_option maxHeartbeats 4000000 in
set_option maxRecDepth 100000 in
theorem c_X0_concurrent_no1 (l : Launch) (D : va_G) (cI cJ : ClassId) (q : Nat → Nat) (n : Nat) (mk lt tg : Nat → Int32) (pa an la kn : Nat → Int64) (fb : Int32) (fh nb te wt bh : Nat → Int32) (x : Int32) (hbad : bad 4 x) (hfl : l.stackTraces = false) : eg_MX D (tyL cI cJ) l yX0_concurrent wsX0_concurrent ({ frames := 7, cells := 1, slots := 6, locals := 103 }) [.ref (q 0), .int x] (wX q cI cJ (nI n) mk lt tg pa an la kn fb fh nb te wt bh) "java/lang/IndexOutOfBoundsException" (fun w1 => ∃ (te' wt' bh' : Nat → Int32), w1 = wX q cI cJ (nI n) mk lt tg pa an la kn fb fh nb te' wt' bh') := by
  refine vx_ofW (cc := cX0_concurrent) (maxL := 6) (ret := (some .int)) (by decide) rfl ?_
  intro p e s m args below meth c s₁ B hml htb hv
  obtain ⟨rfl, hP, hK, hD0, hT⟩ := hv
  have hx := B.exec
  have hb := B.bytes
  have hr := B.returns
  have hts := atoms_spec (ws := wsX0_concurrent) B.pre
  have hown : s.vm.findClass RX0 = some m.cls := findClass_of_methodNamed B.named
  have hlocks := B.notSynchronized
  have hD := eg_D_of hD0
  have hS : va_S (eg_A (wX q cI cJ (nI n) mk lt tg pa an la kn fb fh nb te wt bh)) s.heap s.heap [] := va_S.rf
  have hin : ∀ w ∈ u_ws RX0 TX0 14, w ∈ wsX0_concurrent := by decide +kernel
  have hl := lv_entry ([.ref (q 0), .int x]) (n := 6) (Nat.le_of_ble_eq_true rfl)
  rw [lg_entry_eq]
  generalize (lg_sl ([.ref (q 0), .int x]) ++ List.replicate (6 - (lg_sl ([.ref (q 0), .int x])).length) Slot.unset).toArray = ls at hl ⊢
  have hl : lv_has ls 6 [(0, .ref (q 0)), (1, .int x)] := hl
  generalize h0H : s.heap = H at hP ⊢
  have hS : va_S (eg_A (wX q cI cJ (nI n) mk lt tg pa an la kn fb fh nb te wt bh)) s.heap H [] := by rw [← h0H]; exact hS
  generalize ([] : List Loc) = locs at hS ⊢
  refine lv_aload_n hx hb dX0_concurrent_0 rfl (lv_at hl 0 rfl) ?_
  refine lv_iload_n hx hb dX0_concurrent_1 rfl (lv_at hl 1 rfl) ?_
  exact eg_callXout (As := [.int x]) (rest := []) hx hb hml hown hts hK hP hD rfl hS hT [0, 1, 2, 3, 4, 5, 6, 7, 8, 9, 10, 11, 12] rfl (by decide) (c_X0_checkAuthor_no l D cI cJ q n mk lt tg pa an la kn fb fh nb te wt bh x hbad hfl) (cwV 1 hts gX0_concurrent_X0_checkAuthor rfl rfl rfl (by decide +kernel) ⟨Nat.le_of_ble_eq_true rfl, Nat.le_of_ble_eq_true rfl⟩) (va_recv hK hP (ci := 0) (q0 := 0) rfl rfl) rfl hl.1 rfl (Nat.le_of_ble_eq_true rfl) dX0_concurrent_2 ⟨Nat.le_of_ble_eq_true rfl, Nat.le_of_ble_eq_true rfl⟩ htb hlocks (fun w1 h => ⟨_, _, _, h⟩)
set_option maxHeartbeats 4000000 in
set_option maxRecDepth 100000 in
theorem c_X0_critical_no1 (l : Launch) (D : va_G) (cI cJ : ClassId) (q : Nat → Nat) (n : Nat) (mk lt tg : Nat → Int32) (pa an la kn : Nat → Int64) (fb : Int32) (fh nb te wt bh : Nat → Int32) (x : Int32) (hbad : bad 4 x) (hfl : l.stackTraces = false) : eg_MX D (tyL cI cJ) l yX0_critical wsX0_critical ({ frames := 7, cells := 1, slots := 6, locals := 103 }) [.ref (q 0), .int x] (wX q cI cJ (nI n) mk lt tg pa an la kn fb fh nb te wt bh) "java/lang/IndexOutOfBoundsException" (fun w1 => ∃ (te' wt' bh' : Nat → Int32), w1 = wX q cI cJ (nI n) mk lt tg pa an la kn fb fh nb te' wt' bh') := by
  refine vx_ofW (cc := cX0_critical) (maxL := 2) (ret := (some .long)) (by decide) rfl ?_
  intro p e s m args below meth c s₁ B hml htb hv
  obtain ⟨rfl, hP, hK, hD0, hT⟩ := hv
  have hx := B.exec
  have hb := B.bytes
  have hr := B.returns
  have hts := atoms_spec (ws := wsX0_critical) B.pre
  have hown : s.vm.findClass RX0 = some m.cls := findClass_of_methodNamed B.named
  have hlocks := B.notSynchronized
  have hD := eg_D_of hD0
  have hS : va_S (eg_A (wX q cI cJ (nI n) mk lt tg pa an la kn fb fh nb te wt bh)) s.heap s.heap [] := va_S.rf
  have hin : ∀ w ∈ u_ws RX0 TX0 14, w ∈ wsX0_critical := by decide +kernel
  have hl := lv_entry ([.ref (q 0), .int x]) (n := 2) (Nat.le_of_ble_eq_true rfl)
  rw [lg_entry_eq]
  generalize (lg_sl ([.ref (q 0), .int x]) ++ List.replicate (2 - (lg_sl ([.ref (q 0), .int x])).length) Slot.unset).toArray = ls at hl ⊢
  have hl : lv_has ls 2 [(0, .ref (q 0)), (1, .int x)] := hl
  generalize h0H : s.heap = H at hP ⊢
  have hS : va_S (eg_A (wX q cI cJ (nI n) mk lt tg pa an la kn fb fh nb te wt bh)) s.heap H [] := by rw [← h0H]; exact hS
  generalize ([] : List Loc) = locs at hS ⊢
  refine lv_aload_n hx hb dX0_critical_0 rfl (lv_at hl 0 rfl) ?_
  refine lv_iload_n hx hb dX0_critical_1 rfl (lv_at hl 1 rfl) ?_
  exact eg_callXout (As := [.int x]) (rest := []) hx hb hml hown hts hK hP hD rfl hS hT [0, 1, 2, 3, 4, 5, 6, 7, 8, 9, 10, 11, 12] rfl (by decide) (c_X0_checkAuthor_no l D cI cJ q n mk lt tg pa an la kn fb fh nb te wt bh x hbad hfl) (cwV 1 hts gX0_critical_X0_checkAuthor rfl rfl rfl (by decide +kernel) ⟨Nat.le_of_ble_eq_true rfl, Nat.le_of_ble_eq_true rfl⟩) (va_recv hK hP (ci := 0) (q0 := 0) rfl rfl) rfl hl.1 rfl (Nat.le_of_ble_eq_true rfl) dX0_critical_2 ⟨Nat.le_of_ble_eq_true rfl, Nat.le_of_ble_eq_true rfl⟩ htb hlocks (fun w1 h => ⟨_, _, _, h⟩)
set_option maxHeartbeats 4000000 in
set_option maxRecDepth 100000 in
theorem c_X0_toReplay_no1 (l : Launch) (D : va_G) (cI cJ : ClassId) (q : Nat → Nat) (n : Nat) (mk lt tg : Nat → Int32) (pa an la kn : Nat → Int64) (fb : Int32) (fh nb te wt bh : Nat → Int32) (x : Int32) (hbad : bad 4 x) (hfl : l.stackTraces = false) : eg_MX D (tyL cI cJ) l yX0_toReplay wsX0_toReplay ({ frames := 7, cells := 1, slots := 6, locals := 103 }) [.ref (q 0), .int x] (wX q cI cJ (nI n) mk lt tg pa an la kn fb fh nb te wt bh) "java/lang/IndexOutOfBoundsException" (fun w1 => ∃ (te' wt' bh' : Nat → Int32), w1 = wX q cI cJ (nI n) mk lt tg pa an la kn fb fh nb te' wt' bh') := by
  refine vx_ofW (cc := cX0_toReplay) (maxL := 9) (ret := (some .int)) (by decide) rfl ?_
  intro p e s m args below meth c s₁ B hml htb hv
  obtain ⟨rfl, hP, hK, hD0, hT⟩ := hv
  have hx := B.exec
  have hb := B.bytes
  have hr := B.returns
  have hts := atoms_spec (ws := wsX0_toReplay) B.pre
  have hown : s.vm.findClass RX0 = some m.cls := findClass_of_methodNamed B.named
  have hlocks := B.notSynchronized
  have hD := eg_D_of hD0
  have hS : va_S (eg_A (wX q cI cJ (nI n) mk lt tg pa an la kn fb fh nb te wt bh)) s.heap s.heap [] := va_S.rf
  have hin : ∀ w ∈ u_ws RX0 TX0 14, w ∈ wsX0_toReplay := by decide +kernel
  have hl := lv_entry ([.ref (q 0), .int x]) (n := 9) (Nat.le_of_ble_eq_true rfl)
  rw [lg_entry_eq]
  generalize (lg_sl ([.ref (q 0), .int x]) ++ List.replicate (9 - (lg_sl ([.ref (q 0), .int x])).length) Slot.unset).toArray = ls at hl ⊢
  have hl : lv_has ls 9 [(0, .ref (q 0)), (1, .int x)] := hl
  generalize h0H : s.heap = H at hP ⊢
  have hS : va_S (eg_A (wX q cI cJ (nI n) mk lt tg pa an la kn fb fh nb te wt bh)) s.heap H [] := by rw [← h0H]; exact hS
  generalize ([] : List Loc) = locs at hS ⊢
  refine lv_aload_n hx hb dX0_toReplay_0 rfl (lv_at hl 0 rfl) ?_
  refine lv_iload_n hx hb dX0_toReplay_1 rfl (lv_at hl 1 rfl) ?_
  exact eg_callXout (As := [.int x]) (rest := []) hx hb hml hown hts hK hP hD rfl hS hT [0, 1, 2, 3, 4, 5, 6, 7, 8, 9, 10, 11, 12] rfl (by decide) (c_X0_checkAuthor_no l D cI cJ q n mk lt tg pa an la kn fb fh nb te wt bh x hbad hfl) (cwV 1 hts gX0_toReplay_X0_checkAuthor rfl rfl rfl (by decide +kernel) ⟨Nat.le_of_ble_eq_true rfl, Nat.le_of_ble_eq_true rfl⟩) (va_recv hK hP (ci := 0) (q0 := 0) rfl rfl) rfl hl.1 rfl (Nat.le_of_ble_eq_true rfl) dX0_toReplay_2 ⟨Nat.le_of_ble_eq_true rfl, Nat.le_of_ble_eq_true rfl⟩ htb hlocks (fun w1 h => ⟨_, _, _, h⟩)
set_option maxHeartbeats 4000000 in
set_option maxRecDepth 100000 in
theorem c_X0_runs_no1 (l : Launch) (D : va_G) (cI cJ : ClassId) (q : Nat → Nat) (n : Nat) (mk lt tg : Nat → Int32) (pa an la kn : Nat → Int64) (fb : Int32) (fh nb te wt bh : Nat → Int32) (x : Int32) (hbad : bad 4 x) (hfl : l.stackTraces = false) : eg_MX D (tyL cI cJ) l yX0_runs wsX0_runs ({ frames := 7, cells := 1, slots := 6, locals := 103 }) [.ref (q 0), .int x] (wX q cI cJ (nI n) mk lt tg pa an la kn fb fh nb te wt bh) "java/lang/IndexOutOfBoundsException" (fun w1 => ∃ (te' wt' bh' : Nat → Int32), w1 = wX q cI cJ (nI n) mk lt tg pa an la kn fb fh nb te' wt' bh') := by
  refine vx_ofW (cc := cX0_runs) (maxL := 6) (ret := (some .int)) (by decide) rfl ?_
  intro p e s m args below meth c s₁ B hml htb hv
  obtain ⟨rfl, hP, hK, hD0, hT⟩ := hv
  have hx := B.exec
  have hb := B.bytes
  have hr := B.returns
  have hts := atoms_spec (ws := wsX0_runs) B.pre
  have hown : s.vm.findClass RX0 = some m.cls := findClass_of_methodNamed B.named
  have hlocks := B.notSynchronized
  have hD := eg_D_of hD0
  have hS : va_S (eg_A (wX q cI cJ (nI n) mk lt tg pa an la kn fb fh nb te wt bh)) s.heap s.heap [] := va_S.rf
  have hin : ∀ w ∈ u_ws RX0 TX0 14, w ∈ wsX0_runs := by decide +kernel
  have hl := lv_entry ([.ref (q 0), .int x]) (n := 6) (Nat.le_of_ble_eq_true rfl)
  rw [lg_entry_eq]
  generalize (lg_sl ([.ref (q 0), .int x]) ++ List.replicate (6 - (lg_sl ([.ref (q 0), .int x])).length) Slot.unset).toArray = ls at hl ⊢
  have hl : lv_has ls 6 [(0, .ref (q 0)), (1, .int x)] := hl
  generalize h0H : s.heap = H at hP ⊢
  have hS : va_S (eg_A (wX q cI cJ (nI n) mk lt tg pa an la kn fb fh nb te wt bh)) s.heap H [] := by rw [← h0H]; exact hS
  generalize ([] : List Loc) = locs at hS ⊢
  refine lv_aload_n hx hb dX0_runs_0 rfl (lv_at hl 0 rfl) ?_
  refine lv_iload_n hx hb dX0_runs_1 rfl (lv_at hl 1 rfl) ?_
  exact eg_callXout (As := [.int x]) (rest := []) hx hb hml hown hts hK hP hD rfl hS hT [0, 1, 2, 3, 4, 5, 6, 7, 8, 9, 10, 11, 12] rfl (by decide) (c_X0_checkAuthor_no l D cI cJ q n mk lt tg pa an la kn fb fh nb te wt bh x hbad hfl) (cwV 1 hts gX0_runs_X0_checkAuthor rfl rfl rfl (by decide +kernel) ⟨Nat.le_of_ble_eq_true rfl, Nat.le_of_ble_eq_true rfl⟩) (va_recv hK hP (ci := 0) (q0 := 0) rfl rfl) rfl hl.1 rfl (Nat.le_of_ble_eq_true rfl) dX0_runs_2 ⟨Nat.le_of_ble_eq_true rfl, Nat.le_of_ble_eq_true rfl⟩ htb hlocks (fun w1 h => ⟨_, _, _, h⟩)
set_option maxHeartbeats 4000000 in
set_option maxRecDepth 100000 in
theorem c_X0_lengthOf_no1 (l : Launch) (D : va_G) (cI cJ : ClassId) (q : Nat → Nat) (n : Nat) (mk lt tg : Nat → Int32) (pa an la kn : Nat → Int64) (fb : Int32) (fh nb te wt bh : Nat → Int32) (x : Int32) (hbad : bad n x) (hfl : l.stackTraces = false) : eg_MX D (tyL cI cJ) l yX0_lengthOf wsX0_lengthOf ({ frames := 7, cells := 1, slots := 6, locals := 103 }) [.ref (q 0), .int x] (wX q cI cJ (nI n) mk lt tg pa an la kn fb fh nb te wt bh) "java/lang/IndexOutOfBoundsException" (fun w1 => ∃ (te' wt' bh' : Nat → Int32), w1 = wX q cI cJ (nI n) mk lt tg pa an la kn fb fh nb te' wt' bh') := by
  refine vx_ofW (cc := cX0_lengthOf) (maxL := 2) (ret := (some .int)) (by decide) rfl ?_
  intro p e s m args below meth c s₁ B hml htb hv
  obtain ⟨rfl, hP, hK, hD0, hT⟩ := hv
  have hx := B.exec
  have hb := B.bytes
  have hr := B.returns
  have hts := atoms_spec (ws := wsX0_lengthOf) B.pre
  have hown : s.vm.findClass RX0 = some m.cls := findClass_of_methodNamed B.named
  have hlocks := B.notSynchronized
  have hD := eg_D_of hD0
  have hS : va_S (eg_A (wX q cI cJ (nI n) mk lt tg pa an la kn fb fh nb te wt bh)) s.heap s.heap [] := va_S.rf
  have hl := lv_entry ([.ref (q 0), .int x]) (n := 2) (Nat.le_of_ble_eq_true rfl)
  rw [lg_entry_eq]
  generalize (lg_sl ([.ref (q 0), .int x]) ++ List.replicate (2 - (lg_sl ([.ref (q 0), .int x])).length) Slot.unset).toArray = ls at hl ⊢
  have hl : lv_has ls 2 [(0, .ref (q 0)), (1, .int x)] := hl
  generalize h0H : s.heap = H at hP ⊢
  have hS : va_S (eg_A (wX q cI cJ (nI n) mk lt tg pa an la kn fb fh nb te wt bh)) s.heap H [] := by rw [← h0H]; exact hS
  generalize ([] : List Loc) = locs at hS ⊢
  refine lv_aload_n hx hb dX0_lengthOf_0 rfl (lv_at hl 0 rfl) ?_
  refine lv_iload_n hx hb dX0_lengthOf_1 rfl (lv_at hl 1 rfl) ?_
  exact eg_callXout (As := [.int x]) (rest := []) hx hb hml hown hts hK hP hD rfl hS hT [0, 1, 2, 3, 4, 5, 6, 7, 8, 9, 10, 11, 12] rfl (by decide) (c_X0_checkEvent_no l D cI cJ q n mk lt tg pa an la kn fb fh nb te wt bh x hbad hfl) (cwV 1 hts gX0_lengthOf_X0_checkEvent rfl rfl rfl (by decide +kernel) ⟨Nat.le_of_ble_eq_true rfl, Nat.le_of_ble_eq_true rfl⟩) (va_recv hK hP (ci := 0) (q0 := 0) rfl rfl) rfl hl.1 rfl (Nat.le_of_ble_eq_true rfl) dX0_lengthOf_2 ⟨Nat.le_of_ble_eq_true rfl, Nat.le_of_ble_eq_true rfl⟩ htb hlocks (fun w1 h => ⟨_, _, _, h⟩)
set_option maxHeartbeats 4000000 in
set_option maxRecDepth 100000 in
theorem c_X0_letterOf_no1 (l : Launch) (D : va_G) (cI cJ : ClassId) (q : Nat → Nat) (n : Nat) (mk lt tg : Nat → Int32) (pa an la kn : Nat → Int64) (fb : Int32) (fh nb te wt bh : Nat → Int32) (x : Int32) (y : Int32) (hbad : bad n x) (hfl : l.stackTraces = false) : eg_MX D (tyL cI cJ) l yX0_letterOf wsX0_letterOf ({ frames := 7, cells := 1, slots := 6, locals := 103 }) [.ref (q 0), .int x, .int y] (wX q cI cJ (nI n) mk lt tg pa an la kn fb fh nb te wt bh) "java/lang/IndexOutOfBoundsException" (fun w1 => ∃ (te' wt' bh' : Nat → Int32), w1 = wX q cI cJ (nI n) mk lt tg pa an la kn fb fh nb te' wt' bh') := by
  refine vx_ofW (cc := cX0_letterOf) (maxL := 3) (ret := (some .int)) (by decide) rfl ?_
  intro p e s m args below meth c s₁ B hml htb hv
  obtain ⟨rfl, hP, hK, hD0, hT⟩ := hv
  have hx := B.exec
  have hb := B.bytes
  have hr := B.returns
  have hts := atoms_spec (ws := wsX0_letterOf) B.pre
  have hown : s.vm.findClass RX0 = some m.cls := findClass_of_methodNamed B.named
  have hlocks := B.notSynchronized
  have hD := eg_D_of hD0
  have hS : va_S (eg_A (wX q cI cJ (nI n) mk lt tg pa an la kn fb fh nb te wt bh)) s.heap s.heap [] := va_S.rf
  have hin : ∀ w ∈ u_ws RX0 TX0 14, w ∈ wsX0_letterOf := by decide +kernel
  have hl := lv_entry ([.ref (q 0), .int x, .int y]) (n := 3) (Nat.le_of_ble_eq_true rfl)
  rw [lg_entry_eq]
  generalize (lg_sl ([.ref (q 0), .int x, .int y]) ++ List.replicate (3 - (lg_sl ([.ref (q 0), .int x, .int y])).length) Slot.unset).toArray = ls at hl ⊢
  have hl : lv_has ls 3 [(0, .ref (q 0)), (1, .int x), (2, .int y)] := hl
  generalize h0H : s.heap = H at hP ⊢
  have hS : va_S (eg_A (wX q cI cJ (nI n) mk lt tg pa an la kn fb fh nb te wt bh)) s.heap H [] := by rw [← h0H]; exact hS
  generalize ([] : List Loc) = locs at hS ⊢
  refine lv_aload_n hx hb dX0_letterOf_0 rfl (lv_at hl 0 rfl) ?_
  refine lv_iload_n hx hb dX0_letterOf_1 rfl (lv_at hl 1 rfl) ?_
  exact eg_callXout (As := [.int x]) (rest := []) hx hb hml hown hts hK hP hD rfl hS hT [0, 1, 2, 3, 4, 5, 6, 7, 8, 9, 10, 11, 12] rfl (by decide) (c_X0_checkEvent_no l D cI cJ q n mk lt tg pa an la kn fb fh nb te wt bh x hbad hfl) (cwV 1 hts gX0_letterOf_X0_checkEvent rfl rfl rfl (by decide +kernel) ⟨Nat.le_of_ble_eq_true rfl, Nat.le_of_ble_eq_true rfl⟩) (va_recv hK hP (ci := 0) (q0 := 0) rfl rfl) rfl hl.1 rfl (Nat.le_of_ble_eq_true rfl) dX0_letterOf_2 ⟨Nat.le_of_ble_eq_true rfl, Nat.le_of_ble_eq_true rfl⟩ htb hlocks (fun w1 h => ⟨_, _, _, h⟩)
set_option maxHeartbeats 4000000 in
set_option maxRecDepth 100000 in
theorem c_X0_authorOf_no1 (l : Launch) (D : va_G) (cI cJ : ClassId) (q : Nat → Nat) (n : Nat) (mk lt tg : Nat → Int32) (pa an la kn : Nat → Int64) (fb : Int32) (fh nb te wt bh : Nat → Int32) (x : Int32) (hbad : bad n x) (hfl : l.stackTraces = false) : eg_MX D (tyL cI cJ) l yX0_authorOf wsX0_authorOf ({ frames := 7, cells := 1, slots := 6, locals := 103 }) [.ref (q 0), .int x] (wX q cI cJ (nI n) mk lt tg pa an la kn fb fh nb te wt bh) "java/lang/IndexOutOfBoundsException" (fun w1 => ∃ (te' wt' bh' : Nat → Int32), w1 = wX q cI cJ (nI n) mk lt tg pa an la kn fb fh nb te' wt' bh') := by
  refine vx_ofW (cc := cX0_authorOf) (maxL := 2) (ret := (some .int)) (by decide) rfl ?_
  intro p e s m args below meth c s₁ B hml htb hv
  obtain ⟨rfl, hP, hK, hD0, hT⟩ := hv
  have hx := B.exec
  have hb := B.bytes
  have hr := B.returns
  have hts := atoms_spec (ws := wsX0_authorOf) B.pre
  have hown : s.vm.findClass RX0 = some m.cls := findClass_of_methodNamed B.named
  have hlocks := B.notSynchronized
  have hD := eg_D_of hD0
  have hS : va_S (eg_A (wX q cI cJ (nI n) mk lt tg pa an la kn fb fh nb te wt bh)) s.heap s.heap [] := va_S.rf
  have hin : ∀ w ∈ u_ws RX0 TX0 14, w ∈ wsX0_authorOf := by decide +kernel
  have hl := lv_entry ([.ref (q 0), .int x]) (n := 2) (Nat.le_of_ble_eq_true rfl)
  rw [lg_entry_eq]
  generalize (lg_sl ([.ref (q 0), .int x]) ++ List.replicate (2 - (lg_sl ([.ref (q 0), .int x])).length) Slot.unset).toArray = ls at hl ⊢
  have hl : lv_has ls 2 [(0, .ref (q 0)), (1, .int x)] := hl
  generalize h0H : s.heap = H at hP ⊢
  have hS : va_S (eg_A (wX q cI cJ (nI n) mk lt tg pa an la kn fb fh nb te wt bh)) s.heap H [] := by rw [← h0H]; exact hS
  generalize ([] : List Loc) = locs at hS ⊢
  refine lv_aload_n hx hb dX0_authorOf_0 rfl (lv_at hl 0 rfl) ?_
  refine lv_iload_n hx hb dX0_authorOf_1 rfl (lv_at hl 1 rfl) ?_
  exact eg_callXout (As := [.int x]) (rest := []) hx hb hml hown hts hK hP hD rfl hS hT [0, 1, 2, 3, 4, 5, 6, 7, 8, 9, 10, 11, 12] rfl (by decide) (c_X0_checkEvent_no l D cI cJ q n mk lt tg pa an la kn fb fh nb te wt bh x hbad hfl) (cwV 1 hts gX0_authorOf_X0_checkEvent rfl rfl rfl (by decide +kernel) ⟨Nat.le_of_ble_eq_true rfl, Nat.le_of_ble_eq_true rfl⟩) (va_recv hK hP (ci := 0) (q0 := 0) rfl rfl) rfl hl.1 rfl (Nat.le_of_ble_eq_true rfl) dX0_authorOf_2 ⟨Nat.le_of_ble_eq_true rfl, Nat.le_of_ble_eq_true rfl⟩ htb hlocks (fun w1 h => ⟨_, _, _, h⟩)
set_option maxHeartbeats 4000000 in
set_option maxRecDepth 100000 in
theorem c_X0_parents_no1 (l : Launch) (D : va_G) (cI cJ : ClassId) (q : Nat → Nat) (n : Nat) (mk lt tg : Nat → Int32) (pa an la kn : Nat → Int64) (fb : Int32) (fh nb te wt bh : Nat → Int32) (x : Int32) (hbad : bad n x) (hfl : l.stackTraces = false) : eg_MX D (tyL cI cJ) l yX0_parents wsX0_parents ({ frames := 7, cells := 1, slots := 6, locals := 103 }) [.ref (q 0), .int x] (wX q cI cJ (nI n) mk lt tg pa an la kn fb fh nb te wt bh) "java/lang/IndexOutOfBoundsException" (fun w1 => ∃ (te' wt' bh' : Nat → Int32), w1 = wX q cI cJ (nI n) mk lt tg pa an la kn fb fh nb te' wt' bh') := by
  refine vx_ofW (cc := cX0_parents) (maxL := 2) (ret := (some .long)) (by decide) rfl ?_
  intro p e s m args below meth c s₁ B hml htb hv
  obtain ⟨rfl, hP, hK, hD0, hT⟩ := hv
  have hx := B.exec
  have hb := B.bytes
  have hr := B.returns
  have hts := atoms_spec (ws := wsX0_parents) B.pre
  have hown : s.vm.findClass RX0 = some m.cls := findClass_of_methodNamed B.named
  have hlocks := B.notSynchronized
  have hD := eg_D_of hD0
  have hS : va_S (eg_A (wX q cI cJ (nI n) mk lt tg pa an la kn fb fh nb te wt bh)) s.heap s.heap [] := va_S.rf
  have hin : ∀ w ∈ u_ws RX0 TX0 14, w ∈ wsX0_parents := by decide +kernel
  have hl := lv_entry ([.ref (q 0), .int x]) (n := 2) (Nat.le_of_ble_eq_true rfl)
  rw [lg_entry_eq]
  generalize (lg_sl ([.ref (q 0), .int x]) ++ List.replicate (2 - (lg_sl ([.ref (q 0), .int x])).length) Slot.unset).toArray = ls at hl ⊢
  have hl : lv_has ls 2 [(0, .ref (q 0)), (1, .int x)] := hl
  generalize h0H : s.heap = H at hP ⊢
  have hS : va_S (eg_A (wX q cI cJ (nI n) mk lt tg pa an la kn fb fh nb te wt bh)) s.heap H [] := by rw [← h0H]; exact hS
  generalize ([] : List Loc) = locs at hS ⊢
  refine lv_aload_n hx hb dX0_parents_0 rfl (lv_at hl 0 rfl) ?_
  refine lv_iload_n hx hb dX0_parents_1 rfl (lv_at hl 1 rfl) ?_
  exact eg_callXout (As := [.int x]) (rest := []) hx hb hml hown hts hK hP hD rfl hS hT [0, 1, 2, 3, 4, 5, 6, 7, 8, 9, 10, 11, 12] rfl (by decide) (c_X0_checkEvent_no l D cI cJ q n mk lt tg pa an la kn fb fh nb te wt bh x hbad hfl) (cwV 1 hts gX0_parents_X0_checkEvent rfl rfl rfl (by decide +kernel) ⟨Nat.le_of_ble_eq_true rfl, Nat.le_of_ble_eq_true rfl⟩) (va_recv hK hP (ci := 0) (q0 := 0) rfl rfl) rfl hl.1 rfl (Nat.le_of_ble_eq_true rfl) dX0_parents_2 ⟨Nat.le_of_ble_eq_true rfl, Nat.le_of_ble_eq_true rfl⟩ htb hlocks (fun w1 h => ⟨_, _, _, h⟩)
set_option maxHeartbeats 4000000 in
set_option maxRecDepth 100000 in
theorem c_X0_isLater_no1 (l : Launch) (D : va_G) (cI cJ : ClassId) (q : Nat → Nat) (n : Nat) (mk lt tg : Nat → Int32) (pa an la kn : Nat → Int64) (fb : Int32) (fh nb te wt bh : Nat → Int32) (x : Int32) (y : Int32) (hbad : bad n x) (hfl : l.stackTraces = false) : eg_MX D (tyL cI cJ) l yX0_isLater wsX0_isLater ({ frames := 7, cells := 1, slots := 6, locals := 103 }) [.ref (q 0), .int x, .int y] (wX q cI cJ (nI n) mk lt tg pa an la kn fb fh nb te wt bh) "java/lang/IndexOutOfBoundsException" (fun w1 => ∃ (te' wt' bh' : Nat → Int32), w1 = wX q cI cJ (nI n) mk lt tg pa an la kn fb fh nb te' wt' bh') := by
  refine vx_ofW (cc := cX0_isLater) (maxL := 3) (ret := (some .boolean)) (by decide) rfl ?_
  intro p e s m args below meth c s₁ B hml htb hv
  obtain ⟨rfl, hP, hK, hD0, hT⟩ := hv
  have hx := B.exec
  have hb := B.bytes
  have hr := B.returns
  have hts := atoms_spec (ws := wsX0_isLater) B.pre
  have hown : s.vm.findClass RX0 = some m.cls := findClass_of_methodNamed B.named
  have hlocks := B.notSynchronized
  have hD := eg_D_of hD0
  have hS : va_S (eg_A (wX q cI cJ (nI n) mk lt tg pa an la kn fb fh nb te wt bh)) s.heap s.heap [] := va_S.rf
  have hin : ∀ w ∈ u_ws RX0 TX0 14, w ∈ wsX0_isLater := by decide +kernel
  have hl := lv_entry ([.ref (q 0), .int x, .int y]) (n := 3) (Nat.le_of_ble_eq_true rfl)
  rw [lg_entry_eq]
  generalize (lg_sl ([.ref (q 0), .int x, .int y]) ++ List.replicate (3 - (lg_sl ([.ref (q 0), .int x, .int y])).length) Slot.unset).toArray = ls at hl ⊢
  have hl : lv_has ls 3 [(0, .ref (q 0)), (1, .int x), (2, .int y)] := hl
  generalize h0H : s.heap = H at hP ⊢
  have hS : va_S (eg_A (wX q cI cJ (nI n) mk lt tg pa an la kn fb fh nb te wt bh)) s.heap H [] := by rw [← h0H]; exact hS
  generalize ([] : List Loc) = locs at hS ⊢
  refine lv_aload_n hx hb dX0_isLater_0 rfl (lv_at hl 0 rfl) ?_
  refine lv_iload_n hx hb dX0_isLater_1 rfl (lv_at hl 1 rfl) ?_
  exact eg_callXout (As := [.int x]) (rest := []) hx hb hml hown hts hK hP hD rfl hS hT [0, 1, 2, 3, 4, 5, 6, 7, 8, 9, 10, 11, 12] rfl (by decide) (c_X0_checkEvent_no l D cI cJ q n mk lt tg pa an la kn fb fh nb te wt bh x hbad hfl) (cwV 1 hts gX0_isLater_X0_checkEvent rfl rfl rfl (by decide +kernel) ⟨Nat.le_of_ble_eq_true rfl, Nat.le_of_ble_eq_true rfl⟩) (va_recv hK hP (ci := 0) (q0 := 0) rfl rfl) rfl hl.1 rfl (Nat.le_of_ble_eq_true rfl) dX0_isLater_2 ⟨Nat.le_of_ble_eq_true rfl, Nat.le_of_ble_eq_true rfl⟩ htb hlocks (fun w1 h => ⟨_, _, _, h⟩)
set_option maxHeartbeats 4000000 in
set_option maxRecDepth 100000 in
theorem c_X0_insert_no2 (l : Launch) (D : va_G) (cI cJ : ClassId) (q : Nat → Nat) (n : Nat) (mk lt tg : Nat → Int32) (pa an la kn : Nat → Int64) (fb : Int32) (fh nb te wt bh : Nat → Int32) (a : Nat) (y : Int32) (c9 : Int32) (hI : Inv n lt tg an kn) (htr : ∃ f, Tr n fh nb f fb (lay (ins lt) tg n)) (ha : a < 4) (hbad : bad ((tx n lt tg (kn a)).length + 1) y) (hfl : l.stackTraces = false) : eg_MX D (tyL cI cJ) l yX0_insert wsX0_insert ({ frames := 7, cells := 1, slots := 6, locals := 104 }) [.ref (q 0), .int (nI a), .int y, .int c9] (wX q cI cJ (nI n) mk lt tg pa an la kn fb fh nb te wt bh) "java/lang/IndexOutOfBoundsException" (fun w1 => ∃ (te' wt' bh' : Nat → Int32), w1 = wX q cI cJ (nI n) mk lt tg pa an la kn fb fh nb te' wt' bh') := by
  refine vx_ofW (cc := cX0_insert) (maxL := 7) (ret := (some .int)) (by decide) rfl ?_
  intro p e s m args below meth c s₁ B hml htb hv
  obtain ⟨rfl, hP, hK, hD0, hT⟩ := hv
  have hx := B.exec
  have hb := B.bytes
  have hr := B.returns
  have hts := atoms_spec (ws := wsX0_insert) B.pre
  have hown : s.vm.findClass RX0 = some m.cls := findClass_of_methodNamed B.named
  have hlocks := B.notSynchronized
  have hD := eg_D_of hD0
  have hS : va_S (eg_A (wX q cI cJ (nI n) mk lt tg pa an la kn fb fh nb te wt bh)) s.heap s.heap [] := va_S.rf
  have hin : ∀ w ∈ u_ws RX0 TX0 14, w ∈ wsX0_insert := by decide +kernel
  have hl := lv_entry ([.ref (q 0), .int (nI a), .int y, .int c9]) (n := 7) (Nat.le_of_ble_eq_true rfl)
  rw [lg_entry_eq]
  generalize (lg_sl ([.ref (q 0), .int (nI a), .int y, .int c9]) ++ List.replicate (7 - (lg_sl ([.ref (q 0), .int (nI a), .int y, .int c9])).length) Slot.unset).toArray = ls at hl ⊢
  have hl : lv_has ls 7 [(0, .ref (q 0)), (1, .int (nI a)), (2, .int y), (3, .int c9)] := hl
  generalize h0H : s.heap = H at hP ⊢
  have hS : va_S (eg_A (wX q cI cJ (nI n) mk lt tg pa an la kn fb fh nb te wt bh)) s.heap H [] := by rw [← h0H]; exact hS
  generalize ([] : List Loc) = locs at hS ⊢
  refine lv_aload_n hx hb dX0_insert_0 rfl (lv_at hl 0 rfl) ?_
  refine lv_iload_n hx hb dX0_insert_1 rfl (lv_at hl 1 rfl) ?_
  refine eg_callV (As := [.int (nI a)]) (rest := []) hx hb hml hown hts hK hP (c_X0_checkAuthor l D cI cJ q n mk lt tg pa an la kn fb fh nb te wt bh a (by omega)) (cwV 1 hts gX0_insert_X0_checkAuthor rfl rfl rfl (by decide +kernel) ⟨Nat.le_of_ble_eq_true rfl, Nat.le_of_ble_eq_true rfl⟩) (va_recv hK hP (ci := 0) (q0 := 0) rfl rfl) rfl hl.1 rfl (Nat.le_of_ble_eq_true rfl) dX0_insert_2 ⟨Nat.zero_le _, Nat.zero_le _⟩ ?_
  refine lv_aload_n hx hb dX0_insert_5 rfl (lv_at hl 0 rfl) ?_
  refine lv_aload_n hx hb dX0_insert_6 rfl (lv_at hl 0 rfl) ?_
  refine va_get (D := D) (ci := 0) (v := .ref (q 7)) (C := RX0) (T := TX0) (N := 14) hx hb hts hin hown hK hP 0 rfl rfl 7 (by decide) (hts (.fieldLink RX0 33 "EditGraph" "knownSets" "[J") (by decide +kernel)) (fun _ h9 => h9) rfl dX0_insert_7 ?_
  refine lv_iload_n hx hb dX0_insert_10 rfl (lv_at hl 1 rfl) ?_
  refine eg_lald hx hb hK hP 7 1 rfl rfl (by omega) (by decide) dX0_insert_11 ?_
  have e9 := tx_all hI (hI.vk ha)
  refine eg_callWV (As := [.long (kn a)]) (rest := []) hx hb hml hown hts hK hP hD rfl hS (c_X0_findText l D cI cJ q n mk lt tg pa an la kn fb fh nb te wt bh (kn a) (lay (ins lt) tg n) hI.1 hI.hdl htr (Nat.le_trans (lay_len n (lay_nodup (Nat.le_trans hI.1 (by decide)) hI.hangA)) hI.1)) (cwV 1 hts gX0_insert_X0_findText rfl rfl rfl (by decide +kernel) ⟨Nat.le_of_ble_eq_true rfl, Nat.le_of_ble_eq_true rfl⟩) (va_recv hK hP (ci := 0) (q0 := 0) rfl rfl) rfl hl.1 rfl (Nat.le_of_ble_eq_true rfl) dX0_insert_12 ⟨Nat.zero_le _, Nat.zero_le _⟩ (fun v9 w9 H locs hR9 hw9 hP hS => ?_)
  obtain ⟨te1, wt1, rfl, rfl, hh1⟩ := hR9
  rw [e9] at hh1 ⊢
  have hT9 := tx_len hI (hI.vk ha)
  have hI1 := hI.1
  refine lv_istore (lv' := [(4, .int (nI ((tx n lt tg (kn a)).length))), (0, .ref (q 0)), (1, .int (nI a)), (2, .int y), (3, .int c9)]) hx hb dX0_insert_15 hl (by decide) rfl (fun ls hl => ?_)
  refine lv_aload_n hx hb dX0_insert_17 rfl (lv_at hl 1 rfl) ?_
  refine lv_iload_n hx hb dX0_insert_18 rfl (lv_at hl 3 rfl) ?_
  refine lv_iload hx hb dX0_insert_19 (lv_at hl 0 rfl) ?_
  refine lv_iconst (v := nI 1) hx hb dX0_insert_21 (by decide +kernel) ?_
  refine eg_iadd hx hb dX0_insert_22 ?_
  exact eg_callXout (As := [.int y, .int (nI ((tx n lt tg (kn a)).length + 1))]) (rest := []) hx hb hml hown hts hK hP hD rfl hS hT [0, 1, 2, 3, 4, 5, 6, 7, 8, 9, 10, 11, 12] rfl (by decide) (c_X0_checkPlace_no l D cI cJ q n mk lt tg pa an la kn fb fh nb te1 wt1 bh y ((tx n lt tg (kn a)).length + 1) hbad hfl) (cwV 2 hts gX0_insert_X0_checkPlace rfl rfl rfl (by decide +kernel) ⟨Nat.le_of_ble_eq_true rfl, Nat.le_of_ble_eq_true rfl⟩) (va_recv hK hP (ci := 0) (q0 := 0) rfl rfl) rfl hl.1 rfl (Nat.le_of_ble_eq_true rfl) dX0_insert_23 ⟨Nat.le_of_ble_eq_true rfl, Nat.le_of_ble_eq_true rfl⟩ htb hlocks (fun w1 h => ⟨_, _, _, h⟩)
set_option maxHeartbeats 4000000 in
set_option maxRecDepth 100000 in
theorem c_X0_insert_no3 (l : Launch) (D : va_G) (cI cJ : ClassId) (q : Nat → Nat) (n : Nat) (mk lt tg : Nat → Int32) (pa an la kn : Nat → Int64) (fb : Int32) (fh nb te wt bh : Nat → Int32) (a : Nat) (pp : Nat) (c9 : Int32) (hI : Inv n lt tg an kn) (htr : ∃ f, Tr n fh nb f fb (lay (ins lt) tg n)) (ha : a < 4) (hp : pp ≤ (tx n lt tg (kn a)).length) (hcb : c9 < 0 ∨ ¬ c9 < nI 26) (hfl : l.stackTraces = false) : eg_MX D (tyL cI cJ) l yX0_insert wsX0_insert ({ frames := 6, cells := 1, slots := 6, locals := 97 }) [.ref (q 0), .int (nI a), .int (nI pp), .int c9] (wX q cI cJ (nI n) mk lt tg pa an la kn fb fh nb te wt bh) "java/lang/IllegalArgumentException" (fun w1 => ∃ (te' wt' bh' : Nat → Int32), w1 = wX q cI cJ (nI n) mk lt tg pa an la kn fb fh nb te' wt' bh') := by
  refine vx_ofW (cc := cX0_insert) (maxL := 7) (ret := (some .int)) (by decide) rfl ?_
  intro p e s m args below meth c s₁ B hml htb hv
  obtain ⟨rfl, hP, hK, hD0, hT⟩ := hv
  have hx := B.exec
  have hb := B.bytes
  have hr := B.returns
  have hts := atoms_spec (ws := wsX0_insert) B.pre
  have hown : s.vm.findClass RX0 = some m.cls := findClass_of_methodNamed B.named
  have hlocks := B.notSynchronized
  have hD := eg_D_of hD0
  have hS : va_S (eg_A (wX q cI cJ (nI n) mk lt tg pa an la kn fb fh nb te wt bh)) s.heap s.heap [] := va_S.rf
  have hin : ∀ w ∈ u_ws RX0 TX0 14, w ∈ wsX0_insert := by decide +kernel
  have hl := lv_entry ([.ref (q 0), .int (nI a), .int (nI pp), .int c9]) (n := 7) (Nat.le_of_ble_eq_true rfl)
  rw [lg_entry_eq]
  generalize (lg_sl ([.ref (q 0), .int (nI a), .int (nI pp), .int c9]) ++ List.replicate (7 - (lg_sl ([.ref (q 0), .int (nI a), .int (nI pp), .int c9])).length) Slot.unset).toArray = ls at hl ⊢
  have hl : lv_has ls 7 [(0, .ref (q 0)), (1, .int (nI a)), (2, .int (nI pp)), (3, .int c9)] := hl
  generalize h0H : s.heap = H at hP ⊢
  have hS : va_S (eg_A (wX q cI cJ (nI n) mk lt tg pa an la kn fb fh nb te wt bh)) s.heap H [] := by rw [← h0H]; exact hS
  generalize ([] : List Loc) = locs at hS ⊢
  refine lv_aload_n hx hb dX0_insert_0 rfl (lv_at hl 0 rfl) ?_
  refine lv_iload_n hx hb dX0_insert_1 rfl (lv_at hl 1 rfl) ?_
  refine eg_callV (As := [.int (nI a)]) (rest := []) hx hb hml hown hts hK hP (c_X0_checkAuthor l D cI cJ q n mk lt tg pa an la kn fb fh nb te wt bh a (by omega)) (cwV 1 hts gX0_insert_X0_checkAuthor rfl rfl rfl (by decide +kernel) ⟨Nat.le_of_ble_eq_true rfl, Nat.le_of_ble_eq_true rfl⟩) (va_recv hK hP (ci := 0) (q0 := 0) rfl rfl) rfl hl.1 rfl (Nat.le_of_ble_eq_true rfl) dX0_insert_2 ⟨Nat.zero_le _, Nat.zero_le _⟩ ?_
  refine lv_aload_n hx hb dX0_insert_5 rfl (lv_at hl 0 rfl) ?_
  refine lv_aload_n hx hb dX0_insert_6 rfl (lv_at hl 0 rfl) ?_
  refine va_get (D := D) (ci := 0) (v := .ref (q 7)) (C := RX0) (T := TX0) (N := 14) hx hb hts hin hown hK hP 0 rfl rfl 7 (by decide) (hts (.fieldLink RX0 33 "EditGraph" "knownSets" "[J") (by decide +kernel)) (fun _ h9 => h9) rfl dX0_insert_7 ?_
  refine lv_iload_n hx hb dX0_insert_10 rfl (lv_at hl 1 rfl) ?_
  refine eg_lald hx hb hK hP 7 1 rfl rfl (by omega) (by decide) dX0_insert_11 ?_
  have e9 := tx_all hI (hI.vk ha)
  refine eg_callWV (As := [.long (kn a)]) (rest := []) hx hb hml hown hts hK hP hD rfl hS (c_X0_findText l D cI cJ q n mk lt tg pa an la kn fb fh nb te wt bh (kn a) (lay (ins lt) tg n) hI.1 hI.hdl htr (Nat.le_trans (lay_len n (lay_nodup (Nat.le_trans hI.1 (by decide)) hI.hangA)) hI.1)) (cwV 1 hts gX0_insert_X0_findText rfl rfl rfl (by decide +kernel) ⟨Nat.le_of_ble_eq_true rfl, Nat.le_of_ble_eq_true rfl⟩) (va_recv hK hP (ci := 0) (q0 := 0) rfl rfl) rfl hl.1 rfl (Nat.le_of_ble_eq_true rfl) dX0_insert_12 ⟨Nat.zero_le _, Nat.zero_le _⟩ (fun v9 w9 H locs hR9 hw9 hP hS => ?_)
  obtain ⟨te1, wt1, rfl, rfl, hh1⟩ := hR9
  rw [e9] at hh1 ⊢
  have hT9 := tx_len hI (hI.vk ha)
  have hI1 := hI.1
  refine lv_istore (lv' := [(4, .int (nI ((tx n lt tg (kn a)).length))), (0, .ref (q 0)), (1, .int (nI a)), (2, .int (nI pp)), (3, .int c9)]) hx hb dX0_insert_15 hl (by decide) rfl (fun ls hl => ?_)
  refine lv_aload_n hx hb dX0_insert_17 rfl (lv_at hl 1 rfl) ?_
  refine lv_iload_n hx hb dX0_insert_18 rfl (lv_at hl 3 rfl) ?_
  refine lv_iload hx hb dX0_insert_19 (lv_at hl 0 rfl) ?_
  refine lv_iconst (v := nI 1) hx hb dX0_insert_21 (by decide +kernel) ?_
  refine eg_iadd hx hb dX0_insert_22 ?_
  refine eg_callV (As := [.int (nI pp), .int (nI ((tx n lt tg (kn a)).length + 1))]) (rest := []) hx hb hml hown hts hK hP (c_X0_checkPlace l D cI cJ q n mk lt tg pa an la kn fb fh nb te1 wt1 bh pp ((tx n lt tg (kn a)).length + 1) (by omega) (by omega)) (cwV 2 hts gX0_insert_X0_checkPlace rfl rfl rfl (by decide +kernel) ⟨Nat.le_of_ble_eq_true rfl, Nat.le_of_ble_eq_true rfl⟩) (va_recv hK hP (ci := 0) (q0 := 0) rfl rfl) rfl hl.1 rfl (Nat.le_of_ble_eq_true rfl) dX0_insert_23 ⟨Nat.zero_le _, Nat.zero_le _⟩ ?_
  refine lv_iload_n hx hb dX0_insert_26 rfl (lv_at hl 4 rfl) ?_
  refine lv_if_lt (tgt := 36) hx hb dX0_insert_27 (by decide) (fun c27 => ?_) (fun c27 => ?_)
  · exact eg_throw hx hb hfl hown (by decide +kernel) (hts (.classLink RX0 66 "java/lang/IllegalArgumentException") (by decide +kernel)) (hts (.initialized "java/lang/IllegalArgumentException") (by decide +kernel)) hT.2.2.2.2.2 (hat_70 (fun w h9 => hts w (List.mem_cons_of_mem _ (List.mem_append_left _ (List.mem_append_left _ (List.mem_append_right _ h9))))) hT.1.2) ot_70 hP rfl hS hT (hl.1.trans hml.symm) dX0_insert_36 dX0_insert_39 dX0_insert_40 dX0_insert_42 dX0_insert_45 htb (Nat.le_of_ble_eq_true rfl) (Nat.le_of_ble_eq_true rfl) (Nat.le_of_ble_eq_true rfl) (Nat.le_of_ble_eq_true rfl) hlocks ⟨_, _, _, rfl⟩
  · refine lv_iload_n hx hb dX0_insert_30 rfl (lv_at hl 4 rfl) ?_
    refine lv_bipush (v := nI 26) hx hb dX0_insert_31 (by decide +kernel) ?_
    refine lv_icmp_lt (tgt := 46) hx hb dX0_insert_33 (by decide) (fun c33 => ?_) (fun c33 => ?_)
    · rcases hcb with h | h
      · exact absurd h c27
      · exact absurd c33 h
    · exact eg_throw hx hb hfl hown (by decide +kernel) (hts (.classLink RX0 66 "java/lang/IllegalArgumentException") (by decide +kernel)) (hts (.initialized "java/lang/IllegalArgumentException") (by decide +kernel)) hT.2.2.2.2.2 (hat_70 (fun w h9 => hts w (List.mem_cons_of_mem _ (List.mem_append_left _ (List.mem_append_left _ (List.mem_append_right _ h9))))) hT.1.2) ot_70 hP rfl hS hT (hl.1.trans hml.symm) dX0_insert_36 dX0_insert_39 dX0_insert_40 dX0_insert_42 dX0_insert_45 htb (Nat.le_of_ble_eq_true rfl) (Nat.le_of_ble_eq_true rfl) (Nat.le_of_ble_eq_true rfl) (Nat.le_of_ble_eq_true rfl) hlocks ⟨_, _, _, rfl⟩
set_option maxHeartbeats 4000000 in
set_option maxRecDepth 100000 in
theorem c_X0_insert_no4 (l : Launch) (D : va_G) (cI cJ : ClassId) (q : Nat → Nat) (n : Nat) (mk lt tg : Nat → Int32) (pa an la kn : Nat → Int64) (fb : Int32) (fh nb te wt bh : Nat → Int32) (a : Nat) (pp : Nat) (c9 : Int32) (hI : Inv n lt tg an kn) (htr : ∃ f, Tr n fh nb f fb (lay (ins lt) tg n)) (ha : a < 4) (hp : pp ≤ (tx n lt tg (kn a)).length) (hc : ¬ c9 < 0) (hc2 : c9 < nI 26) (hnr : 60 ≤ n) (hfl : l.stackTraces = false) : eg_MX D (tyL cI cJ) l yX0_insert wsX0_insert ({ frames := 7, cells := 1, slots := 6, locals := 102 }) [.ref (q 0), .int (nI a), .int (nI pp), .int c9] (wX q cI cJ (nI n) mk lt tg pa an la kn fb fh nb te wt bh) "java/lang/IllegalStateException" (fun w1 => ∃ (te' wt' bh' : Nat → Int32), w1 = wX q cI cJ (nI n) mk lt tg pa an la kn fb fh nb te' wt' bh') := by
  refine vx_ofW (cc := cX0_insert) (maxL := 7) (ret := (some .int)) (by decide) rfl ?_
  intro p e s m args below meth c s₁ B hml htb hv
  obtain ⟨rfl, hP, hK, hD0, hT⟩ := hv
  have hx := B.exec
  have hb := B.bytes
  have hr := B.returns
  have hts := atoms_spec (ws := wsX0_insert) B.pre
  have hown : s.vm.findClass RX0 = some m.cls := findClass_of_methodNamed B.named
  have hlocks := B.notSynchronized
  have hD := eg_D_of hD0
  have hS : va_S (eg_A (wX q cI cJ (nI n) mk lt tg pa an la kn fb fh nb te wt bh)) s.heap s.heap [] := va_S.rf
  have hin : ∀ w ∈ u_ws RX0 TX0 14, w ∈ wsX0_insert := by decide +kernel
  have hl := lv_entry ([.ref (q 0), .int (nI a), .int (nI pp), .int c9]) (n := 7) (Nat.le_of_ble_eq_true rfl)
  rw [lg_entry_eq]
  generalize (lg_sl ([.ref (q 0), .int (nI a), .int (nI pp), .int c9]) ++ List.replicate (7 - (lg_sl ([.ref (q 0), .int (nI a), .int (nI pp), .int c9])).length) Slot.unset).toArray = ls at hl ⊢
  have hl : lv_has ls 7 [(0, .ref (q 0)), (1, .int (nI a)), (2, .int (nI pp)), (3, .int c9)] := hl
  generalize h0H : s.heap = H at hP ⊢
  have hS : va_S (eg_A (wX q cI cJ (nI n) mk lt tg pa an la kn fb fh nb te wt bh)) s.heap H [] := by rw [← h0H]; exact hS
  generalize ([] : List Loc) = locs at hS ⊢
  refine lv_aload_n hx hb dX0_insert_0 rfl (lv_at hl 0 rfl) ?_
  refine lv_iload_n hx hb dX0_insert_1 rfl (lv_at hl 1 rfl) ?_
  refine eg_callV (As := [.int (nI a)]) (rest := []) hx hb hml hown hts hK hP (c_X0_checkAuthor l D cI cJ q n mk lt tg pa an la kn fb fh nb te wt bh a (by omega)) (cwV 1 hts gX0_insert_X0_checkAuthor rfl rfl rfl (by decide +kernel) ⟨Nat.le_of_ble_eq_true rfl, Nat.le_of_ble_eq_true rfl⟩) (va_recv hK hP (ci := 0) (q0 := 0) rfl rfl) rfl hl.1 rfl (Nat.le_of_ble_eq_true rfl) dX0_insert_2 ⟨Nat.zero_le _, Nat.zero_le _⟩ ?_
  refine lv_aload_n hx hb dX0_insert_5 rfl (lv_at hl 0 rfl) ?_
  refine lv_aload_n hx hb dX0_insert_6 rfl (lv_at hl 0 rfl) ?_
  refine va_get (D := D) (ci := 0) (v := .ref (q 7)) (C := RX0) (T := TX0) (N := 14) hx hb hts hin hown hK hP 0 rfl rfl 7 (by decide) (hts (.fieldLink RX0 33 "EditGraph" "knownSets" "[J") (by decide +kernel)) (fun _ h9 => h9) rfl dX0_insert_7 ?_
  refine lv_iload_n hx hb dX0_insert_10 rfl (lv_at hl 1 rfl) ?_
  refine eg_lald hx hb hK hP 7 1 rfl rfl (by omega) (by decide) dX0_insert_11 ?_
  have e9 := tx_all hI (hI.vk ha)
  refine eg_callWV (As := [.long (kn a)]) (rest := []) hx hb hml hown hts hK hP hD rfl hS (c_X0_findText l D cI cJ q n mk lt tg pa an la kn fb fh nb te wt bh (kn a) (lay (ins lt) tg n) hI.1 hI.hdl htr (Nat.le_trans (lay_len n (lay_nodup (Nat.le_trans hI.1 (by decide)) hI.hangA)) hI.1)) (cwV 1 hts gX0_insert_X0_findText rfl rfl rfl (by decide +kernel) ⟨Nat.le_of_ble_eq_true rfl, Nat.le_of_ble_eq_true rfl⟩) (va_recv hK hP (ci := 0) (q0 := 0) rfl rfl) rfl hl.1 rfl (Nat.le_of_ble_eq_true rfl) dX0_insert_12 ⟨Nat.zero_le _, Nat.zero_le _⟩ (fun v9 w9 H locs hR9 hw9 hP hS => ?_)
  obtain ⟨te1, wt1, rfl, rfl, hh1⟩ := hR9
  rw [e9] at hh1 ⊢
  have hT9 := tx_len hI (hI.vk ha)
  have hI1 := hI.1
  refine lv_istore (lv' := [(4, .int (nI ((tx n lt tg (kn a)).length))), (0, .ref (q 0)), (1, .int (nI a)), (2, .int (nI pp)), (3, .int c9)]) hx hb dX0_insert_15 hl (by decide) rfl (fun ls hl => ?_)
  refine lv_aload_n hx hb dX0_insert_17 rfl (lv_at hl 1 rfl) ?_
  refine lv_iload_n hx hb dX0_insert_18 rfl (lv_at hl 3 rfl) ?_
  refine lv_iload hx hb dX0_insert_19 (lv_at hl 0 rfl) ?_
  refine lv_iconst (v := nI 1) hx hb dX0_insert_21 (by decide +kernel) ?_
  refine eg_iadd hx hb dX0_insert_22 ?_
  refine eg_callV (As := [.int (nI pp), .int (nI ((tx n lt tg (kn a)).length + 1))]) (rest := []) hx hb hml hown hts hK hP (c_X0_checkPlace l D cI cJ q n mk lt tg pa an la kn fb fh nb te1 wt1 bh pp ((tx n lt tg (kn a)).length + 1) (by omega) (by omega)) (cwV 2 hts gX0_insert_X0_checkPlace rfl rfl rfl (by decide +kernel) ⟨Nat.le_of_ble_eq_true rfl, Nat.le_of_ble_eq_true rfl⟩) (va_recv hK hP (ci := 0) (q0 := 0) rfl rfl) rfl hl.1 rfl (Nat.le_of_ble_eq_true rfl) dX0_insert_23 ⟨Nat.zero_le _, Nat.zero_le _⟩ ?_
  refine lv_iload_n hx hb dX0_insert_26 rfl (lv_at hl 4 rfl) ?_
  refine lv_if_lt (tgt := 36) hx hb dX0_insert_27 (by decide) (fun c27 => ?_) (fun c27 => ?_)
  · first | exact absurd c27 hc | exact absurd hc2 c33
  · refine lv_iload_n hx hb dX0_insert_30 rfl (lv_at hl 4 rfl) ?_
    refine lv_bipush (v := nI 26) hx hb dX0_insert_31 (by decide +kernel) ?_
    refine lv_icmp_lt (tgt := 46) hx hb dX0_insert_33 (by decide) (fun c33 => ?_) (fun c33 => ?_)
    · refine lv_aload_n hx hb dX0_insert_46 rfl (lv_at hl 1 rfl) ?_
      exact eg_callXout (As := []) (rest := []) hx hb hml hown hts hK hP hD rfl hS hT [0, 1, 2, 3, 4, 5, 6, 7, 8, 9, 10, 11, 12] rfl (by decide) (c_X0_checkRoom_no l D cI cJ q n mk lt tg pa an la kn fb fh nb te1 wt1 bh  hnr (by have := hI.1; omega) hfl) (cwV 0 hts gX0_insert_X0_checkRoom rfl rfl rfl (by decide +kernel) ⟨Nat.le_of_ble_eq_true rfl, Nat.le_of_ble_eq_true rfl⟩) (va_recv hK hP (ci := 0) (q0 := 0) rfl rfl) rfl hl.1 rfl (Nat.le_of_ble_eq_true rfl) dX0_insert_47 ⟨Nat.le_of_ble_eq_true rfl, Nat.le_of_ble_eq_true rfl⟩ htb hlocks (fun w1 h => ⟨_, _, _, h⟩)
    · first | exact absurd c27 hc | exact absurd hc2 c33
set_option maxHeartbeats 4000000 in
set_option maxRecDepth 100000 in
theorem c_X0_delete_no2 (l : Launch) (D : va_G) (cI cJ : ClassId) (q : Nat → Nat) (n : Nat) (mk lt tg : Nat → Int32) (pa an la kn : Nat → Int64) (fb : Int32) (fh nb te wt bh : Nat → Int32) (a : Nat) (y : Int32) (hI : Inv n lt tg an kn) (htr : ∃ f, Tr n fh nb f fb (lay (ins lt) tg n)) (ha : a < 4) (hbad : bad (tx n lt tg (kn a)).length y) (hfl : l.stackTraces = false) : eg_MX D (tyL cI cJ) l yX0_delete wsX0_delete ({ frames := 7, cells := 1, slots := 6, locals := 104 }) [.ref (q 0), .int (nI a), .int y] (wX q cI cJ (nI n) mk lt tg pa an la kn fb fh nb te wt bh) "java/lang/IndexOutOfBoundsException" (fun w1 => ∃ (te' wt' bh' : Nat → Int32), w1 = wX q cI cJ (nI n) mk lt tg pa an la kn fb fh nb te' wt' bh') := by
  refine vx_ofW (cc := cX0_delete) (maxL := 4) (ret := (some .int)) (by decide) rfl ?_
  intro p e s m args below meth c s₁ B hml htb hv
  obtain ⟨rfl, hP, hK, hD0, hT⟩ := hv
  have hx := B.exec
  have hb := B.bytes
  have hr := B.returns
  have hts := atoms_spec (ws := wsX0_delete) B.pre
  have hown : s.vm.findClass RX0 = some m.cls := findClass_of_methodNamed B.named
  have hlocks := B.notSynchronized
  have hD := eg_D_of hD0
  have hS : va_S (eg_A (wX q cI cJ (nI n) mk lt tg pa an la kn fb fh nb te wt bh)) s.heap s.heap [] := va_S.rf
  have hin : ∀ w ∈ u_ws RX0 TX0 14, w ∈ wsX0_delete := by decide +kernel
  have hl := lv_entry ([.ref (q 0), .int (nI a), .int y]) (n := 4) (Nat.le_of_ble_eq_true rfl)
  rw [lg_entry_eq]
  generalize (lg_sl ([.ref (q 0), .int (nI a), .int y]) ++ List.replicate (4 - (lg_sl ([.ref (q 0), .int (nI a), .int y])).length) Slot.unset).toArray = ls at hl ⊢
  have hl : lv_has ls 4 [(0, .ref (q 0)), (1, .int (nI a)), (2, .int y)] := hl
  generalize h0H : s.heap = H at hP ⊢
  have hS : va_S (eg_A (wX q cI cJ (nI n) mk lt tg pa an la kn fb fh nb te wt bh)) s.heap H [] := by rw [← h0H]; exact hS
  generalize ([] : List Loc) = locs at hS ⊢
  refine lv_aload_n hx hb dX0_delete_0 rfl (lv_at hl 0 rfl) ?_
  refine lv_iload_n hx hb dX0_delete_1 rfl (lv_at hl 1 rfl) ?_
  refine eg_callV (As := [.int (nI a)]) (rest := []) hx hb hml hown hts hK hP (c_X0_checkAuthor l D cI cJ q n mk lt tg pa an la kn fb fh nb te wt bh a (by omega)) (cwV 1 hts gX0_delete_X0_checkAuthor rfl rfl rfl (by decide +kernel) ⟨Nat.le_of_ble_eq_true rfl, Nat.le_of_ble_eq_true rfl⟩) (va_recv hK hP (ci := 0) (q0 := 0) rfl rfl) rfl hl.1 rfl (Nat.le_of_ble_eq_true rfl) dX0_delete_2 ⟨Nat.zero_le _, Nat.zero_le _⟩ ?_
  refine lv_aload_n hx hb dX0_delete_5 rfl (lv_at hl 0 rfl) ?_
  refine lv_aload_n hx hb dX0_delete_6 rfl (lv_at hl 0 rfl) ?_
  refine va_get (D := D) (ci := 0) (v := .ref (q 7)) (C := RX0) (T := TX0) (N := 14) hx hb hts hin hown hK hP 0 rfl rfl 7 (by decide) (hts (.fieldLink RX0 33 "EditGraph" "knownSets" "[J") (by decide +kernel)) (fun _ h9 => h9) rfl dX0_delete_7 ?_
  refine lv_iload_n hx hb dX0_delete_10 rfl (lv_at hl 1 rfl) ?_
  refine eg_lald hx hb hK hP 7 1 rfl rfl (by omega) (by decide) dX0_delete_11 ?_
  have e9 := tx_all hI (hI.vk ha)
  refine eg_callWV (As := [.long (kn a)]) (rest := []) hx hb hml hown hts hK hP hD rfl hS (c_X0_findText l D cI cJ q n mk lt tg pa an la kn fb fh nb te wt bh (kn a) (lay (ins lt) tg n) hI.1 hI.hdl htr (Nat.le_trans (lay_len n (lay_nodup (Nat.le_trans hI.1 (by decide)) hI.hangA)) hI.1)) (cwV 1 hts gX0_delete_X0_findText rfl rfl rfl (by decide +kernel) ⟨Nat.le_of_ble_eq_true rfl, Nat.le_of_ble_eq_true rfl⟩) (va_recv hK hP (ci := 0) (q0 := 0) rfl rfl) rfl hl.1 rfl (Nat.le_of_ble_eq_true rfl) dX0_delete_12 ⟨Nat.zero_le _, Nat.zero_le _⟩ (fun v9 w9 H locs hR9 hw9 hP hS => ?_)
  obtain ⟨te1, wt1, rfl, rfl, hh1⟩ := hR9
  rw [e9] at hh1 ⊢
  have hT9 := tx_len hI (hI.vk ha)
  have hI1 := hI.1
  refine lv_istore_n (lv' := [(3, .int (nI ((tx n lt tg (kn a)).length))), (0, .ref (q 0)), (1, .int (nI a)), (2, .int y)]) hx hb dX0_delete_15 rfl hl (by decide) rfl (fun ls hl => ?_)
  refine lv_aload_n hx hb dX0_delete_16 rfl (lv_at hl 1 rfl) ?_
  refine lv_iload_n hx hb dX0_delete_17 rfl (lv_at hl 3 rfl) ?_
  refine lv_iload_n hx hb dX0_delete_18 rfl (lv_at hl 0 rfl) ?_
  exact eg_callXout (As := [.int y, .int (nI ((tx n lt tg (kn a)).length))]) (rest := []) hx hb hml hown hts hK hP hD rfl hS hT [0, 1, 2, 3, 4, 5, 6, 7, 8, 9, 10, 11, 12] rfl (by decide) (c_X0_checkPlace_no l D cI cJ q n mk lt tg pa an la kn fb fh nb te1 wt1 bh y ((tx n lt tg (kn a)).length) hbad hfl) (cwV 2 hts gX0_delete_X0_checkPlace rfl rfl rfl (by decide +kernel) ⟨Nat.le_of_ble_eq_true rfl, Nat.le_of_ble_eq_true rfl⟩) (va_recv hK hP (ci := 0) (q0 := 0) rfl rfl) rfl hl.1 rfl (Nat.le_of_ble_eq_true rfl) dX0_delete_19 ⟨Nat.le_of_ble_eq_true rfl, Nat.le_of_ble_eq_true rfl⟩ htb hlocks (fun w1 h => ⟨_, _, _, h⟩)
set_option maxHeartbeats 4000000 in
set_option maxRecDepth 100000 in
theorem c_X0_delete_no3 (l : Launch) (D : va_G) (cI cJ : ClassId) (q : Nat → Nat) (n : Nat) (mk lt tg : Nat → Int32) (pa an la kn : Nat → Int64) (fb : Int32) (fh nb te wt bh : Nat → Int32) (a : Nat) (pp : Nat) (hI : Inv n lt tg an kn) (htr : ∃ f, Tr n fh nb f fb (lay (ins lt) tg n)) (ha : a < 4) (hp : pp < (tx n lt tg (kn a)).length) (hnr : 60 ≤ n) (hfl : l.stackTraces = false) : eg_MX D (tyL cI cJ) l yX0_delete wsX0_delete ({ frames := 7, cells := 1, slots := 6, locals := 102 }) [.ref (q 0), .int (nI a), .int (nI pp)] (wX q cI cJ (nI n) mk lt tg pa an la kn fb fh nb te wt bh) "java/lang/IllegalStateException" (fun w1 => ∃ (te' wt' bh' : Nat → Int32), w1 = wX q cI cJ (nI n) mk lt tg pa an la kn fb fh nb te' wt' bh') := by
  refine vx_ofW (cc := cX0_delete) (maxL := 4) (ret := (some .int)) (by decide) rfl ?_
  intro p e s m args below meth c s₁ B hml htb hv
  obtain ⟨rfl, hP, hK, hD0, hT⟩ := hv
  have hx := B.exec
  have hb := B.bytes
  have hr := B.returns
  have hts := atoms_spec (ws := wsX0_delete) B.pre
  have hown : s.vm.findClass RX0 = some m.cls := findClass_of_methodNamed B.named
  have hlocks := B.notSynchronized
  have hD := eg_D_of hD0
  have hS : va_S (eg_A (wX q cI cJ (nI n) mk lt tg pa an la kn fb fh nb te wt bh)) s.heap s.heap [] := va_S.rf
  have hin : ∀ w ∈ u_ws RX0 TX0 14, w ∈ wsX0_delete := by decide +kernel
  have hl := lv_entry ([.ref (q 0), .int (nI a), .int (nI pp)]) (n := 4) (Nat.le_of_ble_eq_true rfl)
  rw [lg_entry_eq]
  generalize (lg_sl ([.ref (q 0), .int (nI a), .int (nI pp)]) ++ List.replicate (4 - (lg_sl ([.ref (q 0), .int (nI a), .int (nI pp)])).length) Slot.unset).toArray = ls at hl ⊢
  have hl : lv_has ls 4 [(0, .ref (q 0)), (1, .int (nI a)), (2, .int (nI pp))] := hl
  generalize h0H : s.heap = H at hP ⊢
  have hS : va_S (eg_A (wX q cI cJ (nI n) mk lt tg pa an la kn fb fh nb te wt bh)) s.heap H [] := by rw [← h0H]; exact hS
  generalize ([] : List Loc) = locs at hS ⊢
  refine lv_aload_n hx hb dX0_delete_0 rfl (lv_at hl 0 rfl) ?_
  refine lv_iload_n hx hb dX0_delete_1 rfl (lv_at hl 1 rfl) ?_
  refine eg_callV (As := [.int (nI a)]) (rest := []) hx hb hml hown hts hK hP (c_X0_checkAuthor l D cI cJ q n mk lt tg pa an la kn fb fh nb te wt bh a (by omega)) (cwV 1 hts gX0_delete_X0_checkAuthor rfl rfl rfl (by decide +kernel) ⟨Nat.le_of_ble_eq_true rfl, Nat.le_of_ble_eq_true rfl⟩) (va_recv hK hP (ci := 0) (q0 := 0) rfl rfl) rfl hl.1 rfl (Nat.le_of_ble_eq_true rfl) dX0_delete_2 ⟨Nat.zero_le _, Nat.zero_le _⟩ ?_
  refine lv_aload_n hx hb dX0_delete_5 rfl (lv_at hl 0 rfl) ?_
  refine lv_aload_n hx hb dX0_delete_6 rfl (lv_at hl 0 rfl) ?_
  refine va_get (D := D) (ci := 0) (v := .ref (q 7)) (C := RX0) (T := TX0) (N := 14) hx hb hts hin hown hK hP 0 rfl rfl 7 (by decide) (hts (.fieldLink RX0 33 "EditGraph" "knownSets" "[J") (by decide +kernel)) (fun _ h9 => h9) rfl dX0_delete_7 ?_
  refine lv_iload_n hx hb dX0_delete_10 rfl (lv_at hl 1 rfl) ?_
  refine eg_lald hx hb hK hP 7 1 rfl rfl (by omega) (by decide) dX0_delete_11 ?_
  have e9 := tx_all hI (hI.vk ha)
  refine eg_callWV (As := [.long (kn a)]) (rest := []) hx hb hml hown hts hK hP hD rfl hS (c_X0_findText l D cI cJ q n mk lt tg pa an la kn fb fh nb te wt bh (kn a) (lay (ins lt) tg n) hI.1 hI.hdl htr (Nat.le_trans (lay_len n (lay_nodup (Nat.le_trans hI.1 (by decide)) hI.hangA)) hI.1)) (cwV 1 hts gX0_delete_X0_findText rfl rfl rfl (by decide +kernel) ⟨Nat.le_of_ble_eq_true rfl, Nat.le_of_ble_eq_true rfl⟩) (va_recv hK hP (ci := 0) (q0 := 0) rfl rfl) rfl hl.1 rfl (Nat.le_of_ble_eq_true rfl) dX0_delete_12 ⟨Nat.zero_le _, Nat.zero_le _⟩ (fun v9 w9 H locs hR9 hw9 hP hS => ?_)
  obtain ⟨te1, wt1, rfl, rfl, hh1⟩ := hR9
  rw [e9] at hh1 ⊢
  have hT9 := tx_len hI (hI.vk ha)
  have hI1 := hI.1
  refine lv_istore_n (lv' := [(3, .int (nI ((tx n lt tg (kn a)).length))), (0, .ref (q 0)), (1, .int (nI a)), (2, .int (nI pp))]) hx hb dX0_delete_15 rfl hl (by decide) rfl (fun ls hl => ?_)
  refine lv_aload_n hx hb dX0_delete_16 rfl (lv_at hl 1 rfl) ?_
  refine lv_iload_n hx hb dX0_delete_17 rfl (lv_at hl 3 rfl) ?_
  refine lv_iload_n hx hb dX0_delete_18 rfl (lv_at hl 0 rfl) ?_
  refine eg_callV (As := [.int (nI pp), .int (nI ((tx n lt tg (kn a)).length))]) (rest := []) hx hb hml hown hts hK hP (c_X0_checkPlace l D cI cJ q n mk lt tg pa an la kn fb fh nb te1 wt1 bh pp ((tx n lt tg (kn a)).length) hp (by omega)) (cwV 2 hts gX0_delete_X0_checkPlace rfl rfl rfl (by decide +kernel) ⟨Nat.le_of_ble_eq_true rfl, Nat.le_of_ble_eq_true rfl⟩) (va_recv hK hP (ci := 0) (q0 := 0) rfl rfl) rfl hl.1 rfl (Nat.le_of_ble_eq_true rfl) dX0_delete_19 ⟨Nat.zero_le _, Nat.zero_le _⟩ ?_
  refine lv_aload_n hx hb dX0_delete_22 rfl (lv_at hl 1 rfl) ?_
  exact eg_callXout (As := []) (rest := []) hx hb hml hown hts hK hP hD rfl hS hT [0, 1, 2, 3, 4, 5, 6, 7, 8, 9, 10, 11, 12] rfl (by decide) (c_X0_checkRoom_no l D cI cJ q n mk lt tg pa an la kn fb fh nb te1 wt1 bh  hnr (by have := hI.1; omega) hfl) (cwV 0 hts gX0_delete_X0_checkRoom rfl rfl rfl (by decide +kernel) ⟨Nat.le_of_ble_eq_true rfl, Nat.le_of_ble_eq_true rfl⟩) (va_recv hK hP (ci := 0) (q0 := 0) rfl rfl) rfl hl.1 rfl (Nat.le_of_ble_eq_true rfl) dX0_delete_23 ⟨Nat.le_of_ble_eq_true rfl, Nat.le_of_ble_eq_true rfl⟩ htb hlocks (fun w1 h => ⟨_, _, _, h⟩)
set_option maxHeartbeats 4000000 in
set_option maxRecDepth 100000 in
theorem c_X0_learn_no2 (l : Launch) (D : va_G) (cI cJ : ClassId) (q : Nat → Nat) (n : Nat) (mk lt tg : Nat → Int32) (pa an la kn : Nat → Int64) (fb : Int32) (fh nb te wt bh : Nat → Int32) (a : Nat) (y : Int32) (ha : a < 4) (hbad : bad 4 y) (hfl : l.stackTraces = false) : eg_MX D (tyL cI cJ) l yX0_learn wsX0_learn ({ frames := 7, cells := 1, slots := 6, locals := 103 }) [.ref (q 0), .int (nI a), .int y] (wX q cI cJ (nI n) mk lt tg pa an la kn fb fh nb te wt bh) "java/lang/IndexOutOfBoundsException" (fun w1 => ∃ (te' wt' bh' : Nat → Int32), w1 = wX q cI cJ (nI n) mk lt tg pa an la kn fb fh nb te' wt' bh') := by
  refine vx_ofW (cc := cX0_learn) (maxL := 3) (ret := (some .int)) (by decide) rfl ?_
  intro p e s m args below meth c s₁ B hml htb hv
  obtain ⟨rfl, hP, hK, hD0, hT⟩ := hv
  have hx := B.exec
  have hb := B.bytes
  have hr := B.returns
  have hts := atoms_spec (ws := wsX0_learn) B.pre
  have hown : s.vm.findClass RX0 = some m.cls := findClass_of_methodNamed B.named
  have hlocks := B.notSynchronized
  have hD := eg_D_of hD0
  have hS : va_S (eg_A (wX q cI cJ (nI n) mk lt tg pa an la kn fb fh nb te wt bh)) s.heap s.heap [] := va_S.rf
  have hin : ∀ w ∈ u_ws RX0 TX0 14, w ∈ wsX0_learn := by decide +kernel
  have hl := lv_entry ([.ref (q 0), .int (nI a), .int y]) (n := 3) (Nat.le_of_ble_eq_true rfl)
  rw [lg_entry_eq]
  generalize (lg_sl ([.ref (q 0), .int (nI a), .int y]) ++ List.replicate (3 - (lg_sl ([.ref (q 0), .int (nI a), .int y])).length) Slot.unset).toArray = ls at hl ⊢
  have hl : lv_has ls 3 [(0, .ref (q 0)), (1, .int (nI a)), (2, .int y)] := hl
  generalize h0H : s.heap = H at hP ⊢
  have hS : va_S (eg_A (wX q cI cJ (nI n) mk lt tg pa an la kn fb fh nb te wt bh)) s.heap H [] := by rw [← h0H]; exact hS
  generalize ([] : List Loc) = locs at hS ⊢
  refine lv_aload_n hx hb dX0_learn_0 rfl (lv_at hl 0 rfl) ?_
  refine lv_iload_n hx hb dX0_learn_1 rfl (lv_at hl 1 rfl) ?_
  refine eg_callV (As := [.int (nI a)]) (rest := []) hx hb hml hown hts hK hP (c_X0_checkAuthor l D cI cJ q n mk lt tg pa an la kn fb fh nb te wt bh a (by omega)) (cwV 1 hts gX0_learn_X0_checkAuthor rfl rfl rfl (by decide +kernel) ⟨Nat.le_of_ble_eq_true rfl, Nat.le_of_ble_eq_true rfl⟩) (va_recv hK hP (ci := 0) (q0 := 0) rfl rfl) rfl hl.1 rfl (Nat.le_of_ble_eq_true rfl) dX0_learn_2 ⟨Nat.zero_le _, Nat.zero_le _⟩ ?_
  refine lv_aload_n hx hb dX0_learn_5 rfl (lv_at hl 0 rfl) ?_
  refine lv_iload_n hx hb dX0_learn_6 rfl (lv_at hl 2 rfl) ?_
  exact eg_callXout (As := [.int y]) (rest := []) hx hb hml hown hts hK hP hD rfl hS hT [0, 1, 2, 3, 4, 5, 6, 7, 8, 9, 10, 11, 12] rfl (by decide) (c_X0_checkAuthor_no l D cI cJ q n mk lt tg pa an la kn fb fh nb te wt bh y hbad hfl) (cwV 1 hts gX0_learn_X0_checkAuthor rfl rfl rfl (by decide +kernel) ⟨Nat.le_of_ble_eq_true rfl, Nat.le_of_ble_eq_true rfl⟩) (va_recv hK hP (ci := 0) (q0 := 0) rfl rfl) rfl hl.1 rfl (Nat.le_of_ble_eq_true rfl) dX0_learn_7 ⟨Nat.le_of_ble_eq_true rfl, Nat.le_of_ble_eq_true rfl⟩ htb hlocks (fun w1 h => ⟨_, _, _, h⟩)
set_option maxHeartbeats 4000000 in
set_option maxRecDepth 100000 in
theorem c_X0_commonHeads_no2 (l : Launch) (D : va_G) (cI cJ : ClassId) (q : Nat → Nat) (n : Nat) (mk lt tg : Nat → Int32) (pa an la kn : Nat → Int64) (fb : Int32) (fh nb te wt bh : Nat → Int32) (a : Nat) (y : Int32) (ha : a < 4) (hbad : bad 4 y) (hfl : l.stackTraces = false) : eg_MX D (tyL cI cJ) l yX0_commonHeads wsX0_commonHeads ({ frames := 7, cells := 1, slots := 6, locals := 103 }) [.ref (q 0), .int (nI a), .int y] (wX q cI cJ (nI n) mk lt tg pa an la kn fb fh nb te wt bh) "java/lang/IndexOutOfBoundsException" (fun w1 => ∃ (te' wt' bh' : Nat → Int32), w1 = wX q cI cJ (nI n) mk lt tg pa an la kn fb fh nb te' wt' bh') := by
  refine vx_ofW (cc := cX0_commonHeads) (maxL := 3) (ret := (some .long)) (by decide) rfl ?_
  intro p e s m args below meth c s₁ B hml htb hv
  obtain ⟨rfl, hP, hK, hD0, hT⟩ := hv
  have hx := B.exec
  have hb := B.bytes
  have hr := B.returns
  have hts := atoms_spec (ws := wsX0_commonHeads) B.pre
  have hown : s.vm.findClass RX0 = some m.cls := findClass_of_methodNamed B.named
  have hlocks := B.notSynchronized
  have hD := eg_D_of hD0
  have hS : va_S (eg_A (wX q cI cJ (nI n) mk lt tg pa an la kn fb fh nb te wt bh)) s.heap s.heap [] := va_S.rf
  have hin : ∀ w ∈ u_ws RX0 TX0 14, w ∈ wsX0_commonHeads := by decide +kernel
  have hl := lv_entry ([.ref (q 0), .int (nI a), .int y]) (n := 3) (Nat.le_of_ble_eq_true rfl)
  rw [lg_entry_eq]
  generalize (lg_sl ([.ref (q 0), .int (nI a), .int y]) ++ List.replicate (3 - (lg_sl ([.ref (q 0), .int (nI a), .int y])).length) Slot.unset).toArray = ls at hl ⊢
  have hl : lv_has ls 3 [(0, .ref (q 0)), (1, .int (nI a)), (2, .int y)] := hl
  generalize h0H : s.heap = H at hP ⊢
  have hS : va_S (eg_A (wX q cI cJ (nI n) mk lt tg pa an la kn fb fh nb te wt bh)) s.heap H [] := by rw [← h0H]; exact hS
  generalize ([] : List Loc) = locs at hS ⊢
  refine lv_aload_n hx hb dX0_commonHeads_0 rfl (lv_at hl 0 rfl) ?_
  refine lv_iload_n hx hb dX0_commonHeads_1 rfl (lv_at hl 1 rfl) ?_
  refine eg_callV (As := [.int (nI a)]) (rest := []) hx hb hml hown hts hK hP (c_X0_checkAuthor l D cI cJ q n mk lt tg pa an la kn fb fh nb te wt bh a (by omega)) (cwV 1 hts gX0_commonHeads_X0_checkAuthor rfl rfl rfl (by decide +kernel) ⟨Nat.le_of_ble_eq_true rfl, Nat.le_of_ble_eq_true rfl⟩) (va_recv hK hP (ci := 0) (q0 := 0) rfl rfl) rfl hl.1 rfl (Nat.le_of_ble_eq_true rfl) dX0_commonHeads_2 ⟨Nat.zero_le _, Nat.zero_le _⟩ ?_
  refine lv_aload_n hx hb dX0_commonHeads_5 rfl (lv_at hl 0 rfl) ?_
  refine lv_iload_n hx hb dX0_commonHeads_6 rfl (lv_at hl 2 rfl) ?_
  exact eg_callXout (As := [.int y]) (rest := []) hx hb hml hown hts hK hP hD rfl hS hT [0, 1, 2, 3, 4, 5, 6, 7, 8, 9, 10, 11, 12] rfl (by decide) (c_X0_checkAuthor_no l D cI cJ q n mk lt tg pa an la kn fb fh nb te wt bh y hbad hfl) (cwV 1 hts gX0_commonHeads_X0_checkAuthor rfl rfl rfl (by decide +kernel) ⟨Nat.le_of_ble_eq_true rfl, Nat.le_of_ble_eq_true rfl⟩) (va_recv hK hP (ci := 0) (q0 := 0) rfl rfl) rfl hl.1 rfl (Nat.le_of_ble_eq_true rfl) dX0_commonHeads_7 ⟨Nat.le_of_ble_eq_true rfl, Nat.le_of_ble_eq_true rfl⟩ htb hlocks (fun w1 h => ⟨_, _, _, h⟩)
set_option maxHeartbeats 4000000 in
set_option maxRecDepth 100000 in
theorem c_X0_lettersBy_no2 (l : Launch) (D : va_G) (cI cJ : ClassId) (q : Nat → Nat) (n : Nat) (mk lt tg : Nat → Int32) (pa an la kn : Nat → Int64) (fb : Int32) (fh nb te wt bh : Nat → Int32) (a : Nat) (y : Int32) (ha : a < 4) (hbad : bad 4 y) (hfl : l.stackTraces = false) : eg_MX D (tyL cI cJ) l yX0_lettersBy wsX0_lettersBy ({ frames := 7, cells := 1, slots := 6, locals := 103 }) [.ref (q 0), .int (nI a), .int y] (wX q cI cJ (nI n) mk lt tg pa an la kn fb fh nb te wt bh) "java/lang/IndexOutOfBoundsException" (fun w1 => ∃ (te' wt' bh' : Nat → Int32), w1 = wX q cI cJ (nI n) mk lt tg pa an la kn fb fh nb te' wt' bh') := by
  refine vx_ofW (cc := cX0_lettersBy) (maxL := 6) (ret := (some .int)) (by decide) rfl ?_
  intro p e s m args below meth c s₁ B hml htb hv
  obtain ⟨rfl, hP, hK, hD0, hT⟩ := hv
  have hx := B.exec
  have hb := B.bytes
  have hr := B.returns
  have hts := atoms_spec (ws := wsX0_lettersBy) B.pre
  have hown : s.vm.findClass RX0 = some m.cls := findClass_of_methodNamed B.named
  have hlocks := B.notSynchronized
  have hD := eg_D_of hD0
  have hS : va_S (eg_A (wX q cI cJ (nI n) mk lt tg pa an la kn fb fh nb te wt bh)) s.heap s.heap [] := va_S.rf
  have hin : ∀ w ∈ u_ws RX0 TX0 14, w ∈ wsX0_lettersBy := by decide +kernel
  have hl := lv_entry ([.ref (q 0), .int (nI a), .int y]) (n := 6) (Nat.le_of_ble_eq_true rfl)
  rw [lg_entry_eq]
  generalize (lg_sl ([.ref (q 0), .int (nI a), .int y]) ++ List.replicate (6 - (lg_sl ([.ref (q 0), .int (nI a), .int y])).length) Slot.unset).toArray = ls at hl ⊢
  have hl : lv_has ls 6 [(0, .ref (q 0)), (1, .int (nI a)), (2, .int y)] := hl
  generalize h0H : s.heap = H at hP ⊢
  have hS : va_S (eg_A (wX q cI cJ (nI n) mk lt tg pa an la kn fb fh nb te wt bh)) s.heap H [] := by rw [← h0H]; exact hS
  generalize ([] : List Loc) = locs at hS ⊢
  refine lv_aload_n hx hb dX0_lettersBy_0 rfl (lv_at hl 0 rfl) ?_
  refine lv_iload_n hx hb dX0_lettersBy_1 rfl (lv_at hl 1 rfl) ?_
  refine eg_callV (As := [.int (nI a)]) (rest := []) hx hb hml hown hts hK hP (c_X0_checkAuthor l D cI cJ q n mk lt tg pa an la kn fb fh nb te wt bh a (by omega)) (cwV 1 hts gX0_lettersBy_X0_checkAuthor rfl rfl rfl (by decide +kernel) ⟨Nat.le_of_ble_eq_true rfl, Nat.le_of_ble_eq_true rfl⟩) (va_recv hK hP (ci := 0) (q0 := 0) rfl rfl) rfl hl.1 rfl (Nat.le_of_ble_eq_true rfl) dX0_lettersBy_2 ⟨Nat.zero_le _, Nat.zero_le _⟩ ?_
  refine lv_aload_n hx hb dX0_lettersBy_5 rfl (lv_at hl 0 rfl) ?_
  refine lv_iload_n hx hb dX0_lettersBy_6 rfl (lv_at hl 2 rfl) ?_
  exact eg_callXout (As := [.int y]) (rest := []) hx hb hml hown hts hK hP hD rfl hS hT [0, 1, 2, 3, 4, 5, 6, 7, 8, 9, 10, 11, 12] rfl (by decide) (c_X0_checkAuthor_no l D cI cJ q n mk lt tg pa an la kn fb fh nb te wt bh y hbad hfl) (cwV 1 hts gX0_lettersBy_X0_checkAuthor rfl rfl rfl (by decide +kernel) ⟨Nat.le_of_ble_eq_true rfl, Nat.le_of_ble_eq_true rfl⟩) (va_recv hK hP (ci := 0) (q0 := 0) rfl rfl) rfl hl.1 rfl (Nat.le_of_ble_eq_true rfl) dX0_lettersBy_7 ⟨Nat.le_of_ble_eq_true rfl, Nat.le_of_ble_eq_true rfl⟩ htb hlocks (fun w1 h => ⟨_, _, _, h⟩)
set_option maxHeartbeats 4000000 in
set_option maxRecDepth 100000 in
theorem c_X0_isLater_no2 (l : Launch) (D : va_G) (cI cJ : ClassId) (q : Nat → Nat) (n : Nat) (mk lt tg : Nat → Int32) (pa an la kn : Nat → Int64) (fb : Int32) (fh nb te wt bh : Nat → Int32) (e0 : Nat) (y : Int32) (hI : Inv n lt tg an kn) (he : e0 < n) (hbad : bad n y) (hfl : l.stackTraces = false) : eg_MX D (tyL cI cJ) l yX0_isLater wsX0_isLater ({ frames := 7, cells := 1, slots := 6, locals := 103 }) [.ref (q 0), .int (nI e0), .int y] (wX q cI cJ (nI n) mk lt tg pa an la kn fb fh nb te wt bh) "java/lang/IndexOutOfBoundsException" (fun w1 => ∃ (te' wt' bh' : Nat → Int32), w1 = wX q cI cJ (nI n) mk lt tg pa an la kn fb fh nb te' wt' bh') := by
  have hI1 := hI.1
  refine vx_ofW (cc := cX0_isLater) (maxL := 3) (ret := (some .boolean)) (by decide) rfl ?_
  intro p e s m args below meth c s₁ B hml htb hv
  obtain ⟨rfl, hP, hK, hD0, hT⟩ := hv
  have hx := B.exec
  have hb := B.bytes
  have hr := B.returns
  have hts := atoms_spec (ws := wsX0_isLater) B.pre
  have hown : s.vm.findClass RX0 = some m.cls := findClass_of_methodNamed B.named
  have hlocks := B.notSynchronized
  have hD := eg_D_of hD0
  have hS : va_S (eg_A (wX q cI cJ (nI n) mk lt tg pa an la kn fb fh nb te wt bh)) s.heap s.heap [] := va_S.rf
  have hin : ∀ w ∈ u_ws RX0 TX0 14, w ∈ wsX0_isLater := by decide +kernel
  have hl := lv_entry ([.ref (q 0), .int (nI e0), .int y]) (n := 3) (Nat.le_of_ble_eq_true rfl)
  rw [lg_entry_eq]
  generalize (lg_sl ([.ref (q 0), .int (nI e0), .int y]) ++ List.replicate (3 - (lg_sl ([.ref (q 0), .int (nI e0), .int y])).length) Slot.unset).toArray = ls at hl ⊢
  have hl : lv_has ls 3 [(0, .ref (q 0)), (1, .int (nI e0)), (2, .int y)] := hl
  generalize h0H : s.heap = H at hP ⊢
  have hS : va_S (eg_A (wX q cI cJ (nI n) mk lt tg pa an la kn fb fh nb te wt bh)) s.heap H [] := by rw [← h0H]; exact hS
  generalize ([] : List Loc) = locs at hS ⊢
  refine lv_aload_n hx hb dX0_isLater_0 rfl (lv_at hl 0 rfl) ?_
  refine lv_iload_n hx hb dX0_isLater_1 rfl (lv_at hl 1 rfl) ?_
  refine eg_callV (As := [.int (nI e0)]) (rest := []) hx hb hml hown hts hK hP (c_X0_checkEvent l D cI cJ q n mk lt tg pa an la kn fb fh nb te wt bh e0 hI.1 (by omega)) (cwV 1 hts gX0_isLater_X0_checkEvent rfl rfl rfl (by decide +kernel) ⟨Nat.le_of_ble_eq_true rfl, Nat.le_of_ble_eq_true rfl⟩) (va_recv hK hP (ci := 0) (q0 := 0) rfl rfl) rfl hl.1 rfl (Nat.le_of_ble_eq_true rfl) dX0_isLater_2 ⟨Nat.zero_le _, Nat.zero_le _⟩ ?_
  refine lv_aload_n hx hb dX0_isLater_5 rfl (lv_at hl 0 rfl) ?_
  refine lv_iload_n hx hb dX0_isLater_6 rfl (lv_at hl 2 rfl) ?_
  exact eg_callXout (As := [.int y]) (rest := []) hx hb hml hown hts hK hP hD rfl hS hT [0, 1, 2, 3, 4, 5, 6, 7, 8, 9, 10, 11, 12] rfl (by decide) (c_X0_checkEvent_no l D cI cJ q n mk lt tg pa an la kn fb fh nb te wt bh y hbad hfl) (cwV 1 hts gX0_isLater_X0_checkEvent rfl rfl rfl (by decide +kernel) ⟨Nat.le_of_ble_eq_true rfl, Nat.le_of_ble_eq_true rfl⟩) (va_recv hK hP (ci := 0) (q0 := 0) rfl rfl) rfl hl.1 rfl (Nat.le_of_ble_eq_true rfl) dX0_isLater_7 ⟨Nat.le_of_ble_eq_true rfl, Nat.le_of_ble_eq_true rfl⟩ htb hlocks (fun w1 h => ⟨_, _, _, h⟩)
set_option maxHeartbeats 4000000 in
set_option maxRecDepth 100000 in
theorem c_X0_learnEvent_no2 (l : Launch) (D : va_G) (cI cJ : ClassId) (q : Nat → Nat) (n : Nat) (mk lt tg : Nat → Int32) (pa an la kn : Nat → Int64) (fb : Int32) (fh nb te wt bh : Nat → Int32) (a : Nat) (y : Int32) (hI : Inv n lt tg an kn) (ha : a < 4) (hbad : bad n y) (hfl : l.stackTraces = false) : eg_MX D (tyL cI cJ) l yX0_learnEvent wsX0_learnEvent ({ frames := 7, cells := 1, slots := 6, locals := 103 }) [.ref (q 0), .int (nI a), .int y] (wX q cI cJ (nI n) mk lt tg pa an la kn fb fh nb te wt bh) "java/lang/IndexOutOfBoundsException" (fun w1 => ∃ (te' wt' bh' : Nat → Int32), w1 = wX q cI cJ (nI n) mk lt tg pa an la kn fb fh nb te' wt' bh') := by
  refine vx_ofW (cc := cX0_learnEvent) (maxL := 3) (ret := (some .int)) (by decide) rfl ?_
  intro p e s m args below meth c s₁ B hml htb hv
  obtain ⟨rfl, hP, hK, hD0, hT⟩ := hv
  have hx := B.exec
  have hb := B.bytes
  have hr := B.returns
  have hts := atoms_spec (ws := wsX0_learnEvent) B.pre
  have hown : s.vm.findClass RX0 = some m.cls := findClass_of_methodNamed B.named
  have hlocks := B.notSynchronized
  have hD := eg_D_of hD0
  have hS : va_S (eg_A (wX q cI cJ (nI n) mk lt tg pa an la kn fb fh nb te wt bh)) s.heap s.heap [] := va_S.rf
  have hl := lv_entry ([.ref (q 0), .int (nI a), .int y]) (n := 3) (Nat.le_of_ble_eq_true rfl)
  rw [lg_entry_eq]
  generalize (lg_sl ([.ref (q 0), .int (nI a), .int y]) ++ List.replicate (3 - (lg_sl ([.ref (q 0), .int (nI a), .int y])).length) Slot.unset).toArray = ls at hl ⊢
  have hl : lv_has ls 3 [(0, .ref (q 0)), (1, .int (nI a)), (2, .int y)] := hl
  generalize h0H : s.heap = H at hP ⊢
  have hS : va_S (eg_A (wX q cI cJ (nI n) mk lt tg pa an la kn fb fh nb te wt bh)) s.heap H [] := by rw [← h0H]; exact hS
  generalize ([] : List Loc) = locs at hS ⊢
  refine lv_aload_n hx hb dX0_learnEvent_0 rfl (lv_at hl 0 rfl) ?_
  refine lv_iload_n hx hb dX0_learnEvent_1 rfl (lv_at hl 1 rfl) ?_
  refine eg_callV (As := [.int (nI a)]) (rest := []) hx hb hml hown hts hK hP (c_X0_checkAuthor l D cI cJ q n mk lt tg pa an la kn fb fh nb te wt bh a (by omega)) (cwV 1 hts gX0_learnEvent_X0_checkAuthor rfl rfl rfl (by decide +kernel) ⟨Nat.le_of_ble_eq_true rfl, Nat.le_of_ble_eq_true rfl⟩) (va_recv hK hP (ci := 0) (q0 := 0) rfl rfl) rfl hl.1 rfl (Nat.le_of_ble_eq_true rfl) dX0_learnEvent_2 ⟨Nat.zero_le _, Nat.zero_le _⟩ ?_
  refine lv_aload_n hx hb dX0_learnEvent_5 rfl (lv_at hl 0 rfl) ?_
  refine lv_iload_n hx hb dX0_learnEvent_6 rfl (lv_at hl 2 rfl) ?_
  exact eg_callXout (As := [.int y]) (rest := []) hx hb hml hown hts hK hP hD rfl hS hT [0, 1, 2, 3, 4, 5, 6, 7, 8, 9, 10, 11, 12] rfl (by decide) (c_X0_checkEvent_no l D cI cJ q n mk lt tg pa an la kn fb fh nb te wt bh y hbad hfl) (cwV 1 hts gX0_learnEvent_X0_checkEvent rfl rfl rfl (by decide +kernel) ⟨Nat.le_of_ble_eq_true rfl, Nat.le_of_ble_eq_true rfl⟩) (va_recv hK hP (ci := 0) (q0 := 0) rfl rfl) rfl hl.1 rfl (Nat.le_of_ble_eq_true rfl) dX0_learnEvent_7 ⟨Nat.le_of_ble_eq_true rfl, Nat.le_of_ble_eq_true rfl⟩ htb hlocks (fun w1 h => ⟨_, _, _, h⟩)
set_option maxHeartbeats 4000000 in
set_option maxRecDepth 100000 in
theorem c_X0_letterAt_no2 (l : Launch) (D : va_G) (cI cJ : ClassId) (q : Nat → Nat) (n : Nat) (mk lt tg : Nat → Int32) (pa an la kn : Nat → Int64) (fb : Int32) (fh nb te wt bh : Nat → Int32) (a : Nat) (y : Int32) (hI : Inv n lt tg an kn) (htr : ∃ f, Tr n fh nb f fb (lay (ins lt) tg n)) (ha : a < 4) (hbad : bad (tx n lt tg (kn a)).length y) (hfl : l.stackTraces = false) : eg_MX D (tyL cI cJ) l yX0_letterAt wsX0_letterAt ({ frames := 8, cells := 1, slots := 6, locals := 128 }) [.ref (q 0), .int (nI a), .int y] (wX q cI cJ (nI n) mk lt tg pa an la kn fb fh nb te wt bh) "java/lang/IndexOutOfBoundsException" (fun w1 => ∃ (te' wt' bh' : Nat → Int32), w1 = wX q cI cJ (nI n) mk lt tg pa an la kn fb fh nb te' wt' bh') := by
  refine vx_ofW (cc := cX0_letterAt) (maxL := 3) (ret := (some .int)) (by decide) rfl ?_
  intro p e s m args below meth c s₁ B hml htb hv
  obtain ⟨rfl, hP, hK, hD0, hT⟩ := hv
  have hx := B.exec
  have hb := B.bytes
  have hr := B.returns
  have hts := atoms_spec (ws := wsX0_letterAt) B.pre
  have hown : s.vm.findClass RX0 = some m.cls := findClass_of_methodNamed B.named
  have hlocks := B.notSynchronized
  have hD := eg_D_of hD0
  have hS : va_S (eg_A (wX q cI cJ (nI n) mk lt tg pa an la kn fb fh nb te wt bh)) s.heap s.heap [] := va_S.rf
  have hin : ∀ w ∈ u_ws RX0 TX0 14, w ∈ wsX0_letterAt := by decide +kernel
  have hl := lv_entry ([.ref (q 0), .int (nI a), .int y]) (n := 3) (Nat.le_of_ble_eq_true rfl)
  rw [lg_entry_eq]
  generalize (lg_sl ([.ref (q 0), .int (nI a), .int y]) ++ List.replicate (3 - (lg_sl ([.ref (q 0), .int (nI a), .int y])).length) Slot.unset).toArray = ls at hl ⊢
  have hl : lv_has ls 3 [(0, .ref (q 0)), (1, .int (nI a)), (2, .int y)] := hl
  generalize h0H : s.heap = H at hP ⊢
  have hS : va_S (eg_A (wX q cI cJ (nI n) mk lt tg pa an la kn fb fh nb te wt bh)) s.heap H [] := by rw [← h0H]; exact hS
  generalize ([] : List Loc) = locs at hS ⊢
  refine lv_aload_n hx hb dX0_letterAt_0 rfl (lv_at hl 0 rfl) ?_
  refine lv_iload_n hx hb dX0_letterAt_1 rfl (lv_at hl 1 rfl) ?_
  refine eg_callV (As := [.int (nI a)]) (rest := []) hx hb hml hown hts hK hP (c_X0_checkAuthor l D cI cJ q n mk lt tg pa an la kn fb fh nb te wt bh a (by omega)) (cwV 1 hts gX0_letterAt_X0_checkAuthor rfl rfl rfl (by decide +kernel) ⟨Nat.le_of_ble_eq_true rfl, Nat.le_of_ble_eq_true rfl⟩) (va_recv hK hP (ci := 0) (q0 := 0) rfl rfl) rfl hl.1 rfl (Nat.le_of_ble_eq_true rfl) dX0_letterAt_2 ⟨Nat.zero_le _, Nat.zero_le _⟩ ?_
  refine lv_aload_n hx hb dX0_letterAt_5 rfl (lv_at hl 0 rfl) ?_
  refine va_get (D := D) (ci := 0) (v := .ref (q 2)) (C := RX0) (T := TX0) (N := 14) hx hb hts hin hown hK hP 0 rfl rfl 2 (by decide) (hts (.fieldLink RX0 17 "EditGraph" "letters" "[I") (by decide +kernel)) (fun _ h9 => h9) rfl dX0_letterAt_6 ?_
  refine lv_aload_n hx hb dX0_letterAt_9 rfl (lv_at hl 0 rfl) ?_
  refine lv_aload_n hx hb dX0_letterAt_10 rfl (lv_at hl 0 rfl) ?_
  refine va_get (D := D) (ci := 0) (v := .ref (q 7)) (C := RX0) (T := TX0) (N := 14) hx hb hts hin hown hK hP 0 rfl rfl 7 (by decide) (hts (.fieldLink RX0 33 "EditGraph" "knownSets" "[J") (by decide +kernel)) (fun _ h9 => h9) rfl dX0_letterAt_11 ?_
  refine lv_iload_n hx hb dX0_letterAt_14 rfl (lv_at hl 1 rfl) ?_
  refine eg_lald hx hb hK hP 7 1 rfl rfl (by omega) (by decide) dX0_letterAt_15 ?_
  refine lv_iload_n hx hb dX0_letterAt_16 rfl (lv_at hl 2 rfl) ?_
  exact eg_callXout (As := [.long (kn a), .int y]) (rest := [.ref (q 2)]) hx hb hml hown hts hK hP hD rfl hS hT [0, 1, 2, 3, 4, 5, 6, 7, 8, 9, 10, 11, 12] rfl (by decide) (c_X0_eventInText_no l D cI cJ q n mk lt tg pa an la kn fb fh nb te wt bh (kn a) y hI htr (hI.vk ha) hbad hfl) (cwV 2 hts gX0_letterAt_X0_eventInText rfl rfl rfl (by decide +kernel) ⟨Nat.le_of_ble_eq_true rfl, Nat.le_of_ble_eq_true rfl⟩) (va_recv hK hP (ci := 0) (q0 := 0) rfl rfl) rfl hl.1 rfl (Nat.le_of_ble_eq_true rfl) dX0_letterAt_17 ⟨Nat.le_of_ble_eq_true rfl, Nat.le_of_ble_eq_true rfl⟩ htb hlocks (fun w1 h => h)
set_option maxHeartbeats 4000000 in
set_option maxRecDepth 100000 in
theorem c_X0_eventAt_no2 (l : Launch) (D : va_G) (cI cJ : ClassId) (q : Nat → Nat) (n : Nat) (mk lt tg : Nat → Int32) (pa an la kn : Nat → Int64) (fb : Int32) (fh nb te wt bh : Nat → Int32) (a : Nat) (y : Int32) (hI : Inv n lt tg an kn) (htr : ∃ f, Tr n fh nb f fb (lay (ins lt) tg n)) (ha : a < 4) (hbad : bad (tx n lt tg (kn a)).length y) (hfl : l.stackTraces = false) : eg_MX D (tyL cI cJ) l yX0_eventAt wsX0_eventAt ({ frames := 8, cells := 1, slots := 6, locals := 128 }) [.ref (q 0), .int (nI a), .int y] (wX q cI cJ (nI n) mk lt tg pa an la kn fb fh nb te wt bh) "java/lang/IndexOutOfBoundsException" (fun w1 => ∃ (te' wt' bh' : Nat → Int32), w1 = wX q cI cJ (nI n) mk lt tg pa an la kn fb fh nb te' wt' bh') := by
  refine vx_ofW (cc := cX0_eventAt) (maxL := 3) (ret := (some .int)) (by decide) rfl ?_
  intro p e s m args below meth c s₁ B hml htb hv
  obtain ⟨rfl, hP, hK, hD0, hT⟩ := hv
  have hx := B.exec
  have hb := B.bytes
  have hr := B.returns
  have hts := atoms_spec (ws := wsX0_eventAt) B.pre
  have hown : s.vm.findClass RX0 = some m.cls := findClass_of_methodNamed B.named
  have hlocks := B.notSynchronized
  have hD := eg_D_of hD0
  have hS : va_S (eg_A (wX q cI cJ (nI n) mk lt tg pa an la kn fb fh nb te wt bh)) s.heap s.heap [] := va_S.rf
  have hin : ∀ w ∈ u_ws RX0 TX0 14, w ∈ wsX0_eventAt := by decide +kernel
  have hl := lv_entry ([.ref (q 0), .int (nI a), .int y]) (n := 3) (Nat.le_of_ble_eq_true rfl)
  rw [lg_entry_eq]
  generalize (lg_sl ([.ref (q 0), .int (nI a), .int y]) ++ List.replicate (3 - (lg_sl ([.ref (q 0), .int (nI a), .int y])).length) Slot.unset).toArray = ls at hl ⊢
  have hl : lv_has ls 3 [(0, .ref (q 0)), (1, .int (nI a)), (2, .int y)] := hl
  generalize h0H : s.heap = H at hP ⊢
  have hS : va_S (eg_A (wX q cI cJ (nI n) mk lt tg pa an la kn fb fh nb te wt bh)) s.heap H [] := by rw [← h0H]; exact hS
  generalize ([] : List Loc) = locs at hS ⊢
  refine lv_aload_n hx hb dX0_eventAt_0 rfl (lv_at hl 0 rfl) ?_
  refine lv_iload_n hx hb dX0_eventAt_1 rfl (lv_at hl 1 rfl) ?_
  refine eg_callV (As := [.int (nI a)]) (rest := []) hx hb hml hown hts hK hP (c_X0_checkAuthor l D cI cJ q n mk lt tg pa an la kn fb fh nb te wt bh a (by omega)) (cwV 1 hts gX0_eventAt_X0_checkAuthor rfl rfl rfl (by decide +kernel) ⟨Nat.le_of_ble_eq_true rfl, Nat.le_of_ble_eq_true rfl⟩) (va_recv hK hP (ci := 0) (q0 := 0) rfl rfl) rfl hl.1 rfl (Nat.le_of_ble_eq_true rfl) dX0_eventAt_2 ⟨Nat.zero_le _, Nat.zero_le _⟩ ?_
  refine lv_aload_n hx hb dX0_eventAt_5 rfl (lv_at hl 0 rfl) ?_
  refine lv_aload_n hx hb dX0_eventAt_6 rfl (lv_at hl 0 rfl) ?_
  refine va_get (D := D) (ci := 0) (v := .ref (q 7)) (C := RX0) (T := TX0) (N := 14) hx hb hts hin hown hK hP 0 rfl rfl 7 (by decide) (hts (.fieldLink RX0 33 "EditGraph" "knownSets" "[J") (by decide +kernel)) (fun _ h9 => h9) rfl dX0_eventAt_7 ?_
  refine lv_iload_n hx hb dX0_eventAt_10 rfl (lv_at hl 1 rfl) ?_
  refine eg_lald hx hb hK hP 7 1 rfl rfl (by omega) (by decide) dX0_eventAt_11 ?_
  refine lv_iload_n hx hb dX0_eventAt_12 rfl (lv_at hl 2 rfl) ?_
  exact eg_callXout (As := [.long (kn a), .int y]) (rest := []) hx hb hml hown hts hK hP hD rfl hS hT [0, 1, 2, 3, 4, 5, 6, 7, 8, 9, 10, 11, 12] rfl (by decide) (c_X0_eventInText_no l D cI cJ q n mk lt tg pa an la kn fb fh nb te wt bh (kn a) y hI htr (hI.vk ha) hbad hfl) (cwV 2 hts gX0_eventAt_X0_eventInText rfl rfl rfl (by decide +kernel) ⟨Nat.le_of_ble_eq_true rfl, Nat.le_of_ble_eq_true rfl⟩) (va_recv hK hP (ci := 0) (q0 := 0) rfl rfl) rfl hl.1 rfl (Nat.le_of_ble_eq_true rfl) dX0_eventAt_13 ⟨Nat.le_of_ble_eq_true rfl, Nat.le_of_ble_eq_true rfl⟩ htb hlocks (fun w1 h => h)
set_option maxHeartbeats 4000000 in
set_option maxRecDepth 100000 in
theorem c_X0_letterOf_no2 (l : Launch) (D : va_G) (cI cJ : ClassId) (q : Nat → Nat) (n : Nat) (mk lt tg : Nat → Int32) (pa an la kn : Nat → Int64) (fb : Int32) (fh nb te wt bh : Nat → Int32) (e0 : Nat) (y : Int32) (hI : Inv n lt tg an kn) (htr : ∃ f, Tr n fh nb f fb (lay (ins lt) tg n)) (he : e0 < n) (hbad : bad (tx n lt tg (an e0 ||| ol e0)).length y) (hfl : l.stackTraces = false) : eg_MX D (tyL cI cJ) l yX0_letterOf wsX0_letterOf ({ frames := 8, cells := 1, slots := 6, locals := 128 }) [.ref (q 0), .int (nI e0), .int y] (wX q cI cJ (nI n) mk lt tg pa an la kn fb fh nb te wt bh) "java/lang/IndexOutOfBoundsException" (fun w1 => ∃ (te' wt' bh' : Nat → Int32), w1 = wX q cI cJ (nI n) mk lt tg pa an la kn fb fh nb te' wt' bh') := by
  have hI1 := hI.1
  refine vx_ofW (cc := cX0_letterOf) (maxL := 3) (ret := (some .int)) (by decide) rfl ?_
  intro p e s m args below meth c s₁ B hml htb hv
  obtain ⟨rfl, hP, hK, hD0, hT⟩ := hv
  have hx := B.exec
  have hb := B.bytes
  have hr := B.returns
  have hts := atoms_spec (ws := wsX0_letterOf) B.pre
  have hown : s.vm.findClass RX0 = some m.cls := findClass_of_methodNamed B.named
  have hlocks := B.notSynchronized
  have hD := eg_D_of hD0
  have hS : va_S (eg_A (wX q cI cJ (nI n) mk lt tg pa an la kn fb fh nb te wt bh)) s.heap s.heap [] := va_S.rf
  have hin : ∀ w ∈ u_ws RX0 TX0 14, w ∈ wsX0_letterOf := by decide +kernel
  have hl := lv_entry ([.ref (q 0), .int (nI e0), .int y]) (n := 3) (Nat.le_of_ble_eq_true rfl)
  rw [lg_entry_eq]
  generalize (lg_sl ([.ref (q 0), .int (nI e0), .int y]) ++ List.replicate (3 - (lg_sl ([.ref (q 0), .int (nI e0), .int y])).length) Slot.unset).toArray = ls at hl ⊢
  have hl : lv_has ls 3 [(0, .ref (q 0)), (1, .int (nI e0)), (2, .int y)] := hl
  generalize h0H : s.heap = H at hP ⊢
  have hS : va_S (eg_A (wX q cI cJ (nI n) mk lt tg pa an la kn fb fh nb te wt bh)) s.heap H [] := by rw [← h0H]; exact hS
  generalize ([] : List Loc) = locs at hS ⊢
  refine lv_aload_n hx hb dX0_letterOf_0 rfl (lv_at hl 0 rfl) ?_
  refine lv_iload_n hx hb dX0_letterOf_1 rfl (lv_at hl 1 rfl) ?_
  refine eg_callV (As := [.int (nI e0)]) (rest := []) hx hb hml hown hts hK hP (c_X0_checkEvent l D cI cJ q n mk lt tg pa an la kn fb fh nb te wt bh e0 hI.1 (by omega)) (cwV 1 hts gX0_letterOf_X0_checkEvent rfl rfl rfl (by decide +kernel) ⟨Nat.le_of_ble_eq_true rfl, Nat.le_of_ble_eq_true rfl⟩) (va_recv hK hP (ci := 0) (q0 := 0) rfl rfl) rfl hl.1 rfl (Nat.le_of_ble_eq_true rfl) dX0_letterOf_2 ⟨Nat.zero_le _, Nat.zero_le _⟩ ?_
  refine lv_aload_n hx hb dX0_letterOf_5 rfl (lv_at hl 0 rfl) ?_
  refine va_get (D := D) (ci := 0) (v := .ref (q 2)) (C := RX0) (T := TX0) (N := 14) hx hb hts hin hown hK hP 0 rfl rfl 2 (by decide) (hts (.fieldLink RX0 17 "EditGraph" "letters" "[I") (by decide +kernel)) (fun _ h9 => h9) rfl dX0_letterOf_6 ?_
  refine lv_aload_n hx hb dX0_letterOf_9 rfl (lv_at hl 0 rfl) ?_
  refine lv_aload_n hx hb dX0_letterOf_10 rfl (lv_at hl 0 rfl) ?_
  refine lv_iload_n hx hb dX0_letterOf_11 rfl (lv_at hl 1 rfl) ?_
  refine eg_callV (As := [.int (nI e0)]) (rest := [.ref (q 0), .ref (q 2)]) hx hb hml hown hts hK hP (c_X0_versionOfEvent l D cI cJ q n mk lt tg pa an la kn fb fh nb te wt bh e0 (by omega)) (cwV 1 hts gX0_letterOf_X0_versionOfEvent rfl rfl rfl (by decide +kernel) ⟨Nat.le_of_ble_eq_true rfl, Nat.le_of_ble_eq_true rfl⟩) (va_recv hK hP (ci := 0) (q0 := 0) rfl rfl) rfl hl.1 rfl (Nat.le_of_ble_eq_true rfl) dX0_letterOf_12 ⟨Nat.zero_le _, Nat.zero_le _⟩ ?_
  refine lv_iload_n hx hb dX0_letterOf_15 rfl (lv_at hl 2 rfl) ?_
  exact eg_callXout (As := [.long (an e0 ||| ol e0), .int y]) (rest := [.ref (q 2)]) hx hb hml hown hts hK hP hD rfl hS hT [0, 1, 2, 3, 4, 5, 6, 7, 8, 9, 10, 11, 12] rfl (by decide) (c_X0_eventInText_no l D cI cJ q n mk lt tg pa an la kn fb fh nb te wt bh (an e0 ||| ol e0) y hI htr (hI.ve he) hbad hfl) (cwV 2 hts gX0_letterOf_X0_eventInText rfl rfl rfl (by decide +kernel) ⟨Nat.le_of_ble_eq_true rfl, Nat.le_of_ble_eq_true rfl⟩) (va_recv hK hP (ci := 0) (q0 := 0) rfl rfl) rfl hl.1 rfl (Nat.le_of_ble_eq_true rfl) dX0_letterOf_16 ⟨Nat.le_of_ble_eq_true rfl, Nat.le_of_ble_eq_true rfl⟩ htb hlocks (fun w1 h => h)
set_option maxHeartbeats 4000000 in
set_option maxRecDepth 100000 in
theorem c_X0_letterByList_no2 (l : Launch) (D : va_G) (cI cJ : ClassId) (q : Nat → Nat) (n : Nat) (mk lt tg : Nat → Int32) (pa an la kn : Nat → Int64) (fb : Int32) (fh nb te wt bh : Nat → Int32) (a : Nat) (y : Int32) (hI : Inv n lt tg an kn) (ha : a < 4) (hbad : bad (tx n lt tg (kn a)).length y) (hfl : l.stackTraces = false) : eg_MX D (tyL cI cJ) l yX0_letterByList wsX0_letterByList ({ frames := 7, cells := 1, slots := 6, locals := 104 }) [.ref (q 0), .int (nI a), .int y] (wX q cI cJ (nI n) mk lt tg pa an la kn fb fh nb te wt bh) "java/lang/IndexOutOfBoundsException" (fun w1 => ∃ (te' wt' bh' : Nat → Int32), w1 = wX q cI cJ (nI n) mk lt tg pa an la kn fb fh nb te' wt' bh') := by
  refine vx_ofW (cc := cX0_letterByList) (maxL := 4) (ret := (some .int)) (by decide) rfl ?_
  intro p e s m args below meth c s₁ B hml htb hv
  obtain ⟨rfl, hP, hK, hD0, hT⟩ := hv
  have hx := B.exec
  have hb := B.bytes
  have hr := B.returns
  have hts := atoms_spec (ws := wsX0_letterByList) B.pre
  have hown : s.vm.findClass RX0 = some m.cls := findClass_of_methodNamed B.named
  have hlocks := B.notSynchronized
  have hD := eg_D_of hD0
  have hS : va_S (eg_A (wX q cI cJ (nI n) mk lt tg pa an la kn fb fh nb te wt bh)) s.heap s.heap [] := va_S.rf
  have hin : ∀ w ∈ u_ws RX0 TX0 14, w ∈ wsX0_letterByList := by decide +kernel
  have hl := lv_entry ([.ref (q 0), .int (nI a), .int y]) (n := 4) (Nat.le_of_ble_eq_true rfl)
  rw [lg_entry_eq]
  generalize (lg_sl ([.ref (q 0), .int (nI a), .int y]) ++ List.replicate (4 - (lg_sl ([.ref (q 0), .int (nI a), .int y])).length) Slot.unset).toArray = ls at hl ⊢
  have hl : lv_has ls 4 [(0, .ref (q 0)), (1, .int (nI a)), (2, .int y)] := hl
  generalize h0H : s.heap = H at hP ⊢
  have hS : va_S (eg_A (wX q cI cJ (nI n) mk lt tg pa an la kn fb fh nb te wt bh)) s.heap H [] := by rw [← h0H]; exact hS
  generalize ([] : List Loc) = locs at hS ⊢
  refine lv_aload_n hx hb dX0_letterByList_0 rfl (lv_at hl 0 rfl) ?_
  refine lv_iload_n hx hb dX0_letterByList_1 rfl (lv_at hl 1 rfl) ?_
  refine eg_callV (As := [.int (nI a)]) (rest := []) hx hb hml hown hts hK hP (c_X0_checkAuthor l D cI cJ q n mk lt tg pa an la kn fb fh nb te wt bh a (by omega)) (cwV 1 hts gX0_letterByList_X0_checkAuthor rfl rfl rfl (by decide +kernel) ⟨Nat.le_of_ble_eq_true rfl, Nat.le_of_ble_eq_true rfl⟩) (va_recv hK hP (ci := 0) (q0 := 0) rfl rfl) rfl hl.1 rfl (Nat.le_of_ble_eq_true rfl) dX0_letterByList_2 ⟨Nat.zero_le _, Nat.zero_le _⟩ ?_
  refine lv_aload_n hx hb dX0_letterByList_5 rfl (lv_at hl 0 rfl) ?_
  refine lv_aload_n hx hb dX0_letterByList_6 rfl (lv_at hl 0 rfl) ?_
  refine va_get (D := D) (ci := 0) (v := .ref (q 7)) (C := RX0) (T := TX0) (N := 14) hx hb hts hin hown hK hP 0 rfl rfl 7 (by decide) (hts (.fieldLink RX0 33 "EditGraph" "knownSets" "[J") (by decide +kernel)) (fun _ h9 => h9) rfl dX0_letterByList_7 ?_
  refine lv_iload_n hx hb dX0_letterByList_10 rfl (lv_at hl 1 rfl) ?_
  refine eg_lald hx hb hK hP 7 1 rfl rfl (by omega) (by decide) dX0_letterByList_11 ?_
  have e9 := tx_list (v := kn a) hI
  refine eg_callWV (As := [.long (kn a)]) (rest := []) hx hb hml hown hts hK hP hD rfl hS (c_X0_findTextByList l D cI cJ q n mk lt tg pa an la kn fb fh nb te wt bh (kn a) hI.1 hI.hdl (hI.hangV (hI.vk ha))) (cwV 1 hts gX0_letterByList_X0_findTextByList rfl rfl rfl (by decide +kernel) ⟨Nat.le_of_ble_eq_true rfl, Nat.le_of_ble_eq_true rfl⟩) (va_recv hK hP (ci := 0) (q0 := 0) rfl rfl) rfl hl.1 rfl (Nat.le_of_ble_eq_true rfl) dX0_letterByList_12 ⟨Nat.zero_le _, Nat.zero_le _⟩ (fun v9 w9 H locs hR9 hw9 hP hS => ?_)
  obtain ⟨te1, bh1, rfl, rfl, hh1⟩ := hR9
  rw [e9] at hh1 ⊢
  have hT9 := tx_len hI (hI.vk ha)
  have hI1 := hI.1
  refine lv_istore_n (lv' := [(3, .int (nI ((tx n lt tg (kn a)).length))), (0, .ref (q 0)), (1, .int (nI a)), (2, .int y)]) hx hb dX0_letterByList_15 rfl hl (by decide) rfl (fun ls hl => ?_)
  refine lv_aload_n hx hb dX0_letterByList_16 rfl (lv_at hl 1 rfl) ?_
  refine lv_iload_n hx hb dX0_letterByList_17 rfl (lv_at hl 3 rfl) ?_
  refine lv_iload_n hx hb dX0_letterByList_18 rfl (lv_at hl 0 rfl) ?_
  exact eg_callXout (As := [.int y, .int (nI ((tx n lt tg (kn a)).length))]) (rest := []) hx hb hml hown hts hK hP hD rfl hS hT [0, 1, 2, 3, 4, 5, 6, 7, 8, 9, 10, 11, 12] rfl (by decide) (c_X0_checkPlace_no l D cI cJ q n mk lt tg pa an la kn fb fh nb te1 wt bh1 y ((tx n lt tg (kn a)).length) hbad hfl) (cwV 2 hts gX0_letterByList_X0_checkPlace rfl rfl rfl (by decide +kernel) ⟨Nat.le_of_ble_eq_true rfl, Nat.le_of_ble_eq_true rfl⟩) (va_recv hK hP (ci := 0) (q0 := 0) rfl rfl) rfl hl.1 rfl (Nat.le_of_ble_eq_true rfl) dX0_letterByList_19 ⟨Nat.le_of_ble_eq_true rfl, Nat.le_of_ble_eq_true rfl⟩ htb hlocks (fun w1 h => ⟨_, _, _, h⟩)
end
section
-- a new array of ints, of longs, where the class of such arrays is known
section EGN
variable {p : Program} {l : Launch} {e : Env} {R : Room} {s : State} {m : MethodId} {args : Array Value} {below : List Frame} {meth : Method} {c : Code} {H : Heap} {locs : List Loc} {cells slots : Nat} {Q : State → Prop}
variable {cc : ByteArray} {pc : Nat} {ls : Array Slot} {rest : List Value} {D : va_G} {cI cJ : ClassId} {w : va_W} {A : Nat → Prop} {H0 : Heap}
theorem eg_newI (hx : p.tables.exec = Jvm.exec) (hb : c.code = cc) (harr : (Cond.arrayClass .int).before args s = true) (hK : va_K D vwCl (tyL cI cJ) s) (hP : va_P D vwCl w H) (hD : va_D A w) (hS : va_S A H0 H locs) (hA : ∀ q, H0.size ≤ q → A q) {N : Nat} (hN : N < 1000) (hcells : cells + 1 ≤ R.cells) (hslots : slots + N ≤ R.slots) (hdg : decode cc pc = .ok (.newarray .int, 2))
    (kk : ∀ (q : Nat) (H1 : Heap), va_P D vwCl (w ++ [(q, .inl (cI, N, .inl (fun _ => 0)))]) H1 → va_D A (w ++ [(q, .inl (cI, N, .inl (fun _ => 0)))]) → va_S A H0 H1 locs → W p l e R s m args below meth c H1 locs (cells + 1) (slots + N) Q (F0 m (pc + 2) ls (.ref q :: rest))) : W p l e R s m args below meth c H locs cells slots Q (F0 m pc ls (.int (nI N) :: rest)) := by
  refine va_newa (atype := .int) (ty := .int) (a0 := (N, .inl (fun _ => 0))) hx hb harr rfl hK hP hD hS hA (fun _ => rfl) (nI_pos (by omega)) (nI_clamp (by omega)) (by show N * 4 ≤ _; omega) hcells hslots hdg (fun q cA H1 k1 p1 d1 s1 => ?_)
  have e1 : s.vm.findClass ("[" ++ FieldType.int.toString) = some cA := (k1.2 2 (cA, .int) rfl).2
  have e2 : s.vm.findClass ("[" ++ FieldType.int.toString) = some cI := (hK.2 0 (cI, .int) rfl).2
  cases Option.some.inj (e1.symm.trans e2)
  exact kk q H1 p1 d1 s1
theorem eg_newJ (hx : p.tables.exec = Jvm.exec) (hb : c.code = cc) (harr : (Cond.arrayClass .long).before args s = true) (hK : va_K D vwCl (tyL cI cJ) s) (hP : va_P D vwCl w H) (hD : va_D A w) (hS : va_S A H0 H locs) (hA : ∀ q, H0.size ≤ q → A q) {N : Nat} (hN : N < 1000) (hcells : cells + 1 ≤ R.cells) (hslots : slots + N ≤ R.slots) (hdg : decode cc pc = .ok (.newarray .long, 2))
    (kk : ∀ (q : Nat) (H1 : Heap), va_P D vwCl (w ++ [(q, .inl (cJ, N, .inr (.inl (fun _ => 0))))]) H1 → va_D A (w ++ [(q, .inl (cJ, N, .inr (.inl (fun _ => 0))))]) → va_S A H0 H1 locs → W p l e R s m args below meth c H1 locs (cells + 1) (slots + N) Q (F0 m (pc + 2) ls (.ref q :: rest))) : W p l e R s m args below meth c H locs cells slots Q (F0 m pc ls (.int (nI N) :: rest)) := by
  refine va_newa (atype := .long) (ty := .long) (a0 := (N, .inr (.inl (fun _ => 0)))) hx hb harr rfl hK hP hD hS hA (fun _ => rfl) (nI_pos (by omega)) (nI_clamp (by omega)) (by show N * 8 ≤ _; omega) hcells hslots hdg (fun q cA H1 k1 p1 d1 s1 => ?_)
  have e1 : s.vm.findClass ("[" ++ FieldType.long.toString) = some cA := (k1.2 2 (cA, .long) rfl).2
  have e2 : s.vm.findClass ("[" ++ FieldType.long.toString) = some cJ := (hK.2 1 (cJ, .long) rfl).2
  cases Option.some.inj (e1.symm.trans e2)
  exact kk q H1 p1 d1 s1
end EGN
end
section
-- the two constructors (by specI.py)
set_option maxHeartbeats 4000000 in
set_option maxRecDepth 100000 in
theorem c_X0_init (l : Launch) (D : va_G) (cI cJ : ClassId) (h0 sz : Nat) : Met l yX0_init wsX0_init ({ frames := 1, cells := 12, slots := 664, locals := 12 }) (va_Pc [.ref h0] (fun U => U.heap.size = sz ∧ va_P D vwCl [(h0, .inr (0, [.int 0, .null, .null, .null, .null, .null, .null, .null, .int 0, .null, .null, .null, .null, .null]))] U.heap ∧ va_K D vwCl (tyL cI cJ) U ∧ va_D (fun _ => True) [(h0, .inr (0, [.int 0, .null, .null, .null, .null, .null, .null, .null, .int 0, .null, .null, .null, .null, .null]))])) (va_Qv (fun q : Nat → Nat => q 0 = h0) (fun q t => va_P D vwCl (wX q cI cJ (nI 0) (fun _ => 0) (fun _ => 0) (fun _ => 0) (fun _ => 0) (fun _ => 0) (fun _ => 0) (fun _ => 0) (-1) (fun _ => 0) (fun _ => 0) (fun _ => 0) (fun _ => 0) (fun _ => 0)) t.heap ∧ va_D (va_A [(h0, .inr (0, [.int 0, .null, .null, .null, .null, .null, .null, .null, .int 0, .null, .null, .null, .null, .null]))] sz) (wX q cI cJ (nI 0) (fun _ => 0) (fun _ => 0) (fun _ => 0) (fun _ => 0) (fun _ => 0) (fun _ => 0) (fun _ => 0) (-1) (fun _ => 0) (fun _ => 0) (fun _ => 0) (fun _ => 0) (fun _ => 0))) (va_A [(h0, .inr (0, [.int 0, .null, .null, .null, .null, .null, .null, .null, .int 0, .null, .null, .null, .null, .null]))] sz)) 12 664 (va_A [(h0, .inr (0, [.int 0, .null, .null, .null, .null, .null, .null, .null, .int 0, .null, .null, .null, .null, .null]))] sz) := by
  refine Met.ofW (cc := cX0_init) (maxL := 1) (ret := none) (by decide) rfl ?_
  intro p e s m args below meth c s₁ B hml hv
  obtain ⟨rfl, hsz, hP, hK, hD0⟩ := hv
  have hx := B.exec
  have hb := B.bytes
  have hr := B.returns
  have hts := atoms_spec (ws := wsX0_init) B.pre
  have hown : s.vm.findClass RX0 = some m.cls := findClass_of_methodNamed B.named
  have hlocks := B.notSynchronized
  have hinm : meth.name = "<init>" := (name_of_methodNamed B.named B.method).1
  subst hsz
  have hD := hD0.self (sz := s.heap.size)
  generalize hAe : va_A [(h0, .inr (0, [.int 0, .null, .null, .null, .null, .null, .null, .null, .int 0, .null, .null, .null, .null, .null]))] s.heap.size = A at hD ⊢
  have hA : ∀ q : Nat, s.heap.size ≤ q → A q := fun q h => by rw [← hAe]; exact Or.inr h
  have hS : va_S A s.heap s.heap [] := va_S.rf
  have hin : ∀ w ∈ u_ws RX0 TX0 14, w ∈ wsX0_init := by decide +kernel
  have hl := lv_entry ([.ref h0]) (n := 1) (Nat.le_of_ble_eq_true rfl)
  rw [lg_entry_eq]
  generalize (lg_sl ([.ref h0]) ++ List.replicate (1 - (lg_sl ([.ref h0])).length) Slot.unset).toArray = ls at hl ⊢
  have hl : lv_has ls 1 [(0, .ref h0)] := hl
  refine lv_aload_n hx hb dX0_init_0 rfl (lv_at hl 0 rfl) ?_
  refine W.objInit hx hb hown (hts (.methodLink RX0 1 objectInit) (by decide +kernel)) (hts (.instanceMethod objectInit) (by decide +kernel)) (hts _ (List.mem_cons_of_mem _ (List.mem_append_left _ (List.mem_of_getElem? (i := 2) rfl)))) rfl (by rw [hml]; exact hl.1) rfl dX0_init_1 (Nat.le_of_ble_eq_true rfl) (Nat.le_of_ble_eq_true rfl) ?_
  refine W.eq (g2 := F0 m 4 ls []) rfl ?_
  refine lv_aload_n hx hb dX0_init_4 rfl (lv_at hl 0 rfl) ?_
  refine lv_iconst (v := nI 0) hx hb dX0_init_5 (by decide +kernel) ?_
  refine va_put (D := D) (ci := 0) (v := .int (nI 0)) (ty := .int) (C := RX0) (T := TX0) (N := 14) hx hb hts hin tyX0 tyX0_ok nmX0 hown hK hP hD hS 0 rfl rfl 0 (by decide) (hts (.fieldLink RX0 7 "EditGraph" "eventCount" "I") (by decide +kernel)) (fun _ h9 => h9) rfl (by decide +kernel) rfl rfl (Nat.le_of_ble_eq_true rfl) dX0_init_6 (fun H locs hP hD hS => ?_)
  have hP : va_P D vwCl [(h0, .inr (0, [.int (nI 0), .null, .null, .null, .null, .null, .null, .null, .int 0, .null, .null, .null, .null, .null]))] H := hP
  have hD : va_D A [(h0, .inr (0, [.int (nI 0), .null, .null, .null, .null, .null, .null, .null, .int 0, .null, .null, .null, .null, .null]))] := hD
  refine lv_aload_n hx hb dX0_init_9 rfl (lv_at hl 0 rfl) ?_
  refine lv_bipush (v := nI 60) hx hb dX0_init_10 (by decide +kernel) ?_
  refine eg_newI hx hb (hts (.arrayClass .int) (by decide +kernel)) hK hP hD hS hA (by decide) (Nat.le_of_ble_eq_true rfl) (Nat.le_of_ble_eq_true rfl) dX0_init_12 (fun q1 H hP hD hS => ?_)
  have hP : va_P D vwCl [(h0, .inr (0, [.int (nI 0), .null, .null, .null, .null, .null, .null, .null, .int 0, .null, .null, .null, .null, .null])), (q1, .inl (cI, 60, .inl (fun _ => 0)))] H := hP
  have hD : va_D A [(h0, .inr (0, [.int (nI 0), .null, .null, .null, .null, .null, .null, .null, .int 0, .null, .null, .null, .null, .null])), (q1, .inl (cI, 60, .inl (fun _ => 0)))] := hD
  refine va_putF (D := D) (ci := 0) (v := .ref q1) (ty := .array .int) (C := RX0) (T := TX0) (N := 14) hx hb hts hin tyX0 tyX0_ok nmX0 hown hK hP hD hS 0 rfl rfl 1 (by decide) (hts (.fieldLink RX0 13 "EditGraph" "makers" "[I") (by decide +kernel)) (fun _ h9 => h9) rfl hinm rfl (by decide +kernel) rfl rfl (Nat.le_of_ble_eq_true rfl) dX0_init_14 (fun H locs hP hD hS => ?_)
  have hP : va_P D vwCl [(h0, .inr (0, [.int (nI 0), .ref q1, .null, .null, .null, .null, .null, .null, .int 0, .null, .null, .null, .null, .null])), (q1, .inl (cI, 60, .inl (fun _ => 0)))] H := hP
  have hD : va_D A [(h0, .inr (0, [.int (nI 0), .ref q1, .null, .null, .null, .null, .null, .null, .int 0, .null, .null, .null, .null, .null])), (q1, .inl (cI, 60, .inl (fun _ => 0)))] := hD
  refine lv_aload_n hx hb dX0_init_17 rfl (lv_at hl 0 rfl) ?_
  refine lv_bipush (v := nI 60) hx hb dX0_init_18 (by decide +kernel) ?_
  refine eg_newI hx hb (hts (.arrayClass .int) (by decide +kernel)) hK hP hD hS hA (by decide) (Nat.le_of_ble_eq_true rfl) (Nat.le_of_ble_eq_true rfl) dX0_init_20 (fun q2 H hP hD hS => ?_)
  have hP : va_P D vwCl [(h0, .inr (0, [.int (nI 0), .ref q1, .null, .null, .null, .null, .null, .null, .int 0, .null, .null, .null, .null, .null])), (q1, .inl (cI, 60, .inl (fun _ => 0))), (q2, .inl (cI, 60, .inl (fun _ => 0)))] H := hP
  have hD : va_D A [(h0, .inr (0, [.int (nI 0), .ref q1, .null, .null, .null, .null, .null, .null, .int 0, .null, .null, .null, .null, .null])), (q1, .inl (cI, 60, .inl (fun _ => 0))), (q2, .inl (cI, 60, .inl (fun _ => 0)))] := hD
  refine va_putF (D := D) (ci := 0) (v := .ref q2) (ty := .array .int) (C := RX0) (T := TX0) (N := 14) hx hb hts hin tyX0 tyX0_ok nmX0 hown hK hP hD hS 0 rfl rfl 2 (by decide) (hts (.fieldLink RX0 17 "EditGraph" "letters" "[I") (by decide +kernel)) (fun _ h9 => h9) rfl hinm rfl (by decide +kernel) rfl rfl (Nat.le_of_ble_eq_true rfl) dX0_init_22 (fun H locs hP hD hS => ?_)
  have hP : va_P D vwCl [(h0, .inr (0, [.int (nI 0), .ref q1, .ref q2, .null, .null, .null, .null, .null, .int 0, .null, .null, .null, .null, .null])), (q1, .inl (cI, 60, .inl (fun _ => 0))), (q2, .inl (cI, 60, .inl (fun _ => 0)))] H := hP
  have hD : va_D A [(h0, .inr (0, [.int (nI 0), .ref q1, .ref q2, .null, .null, .null, .null, .null, .int 0, .null, .null, .null, .null, .null])), (q1, .inl (cI, 60, .inl (fun _ => 0))), (q2, .inl (cI, 60, .inl (fun _ => 0)))] := hD
  refine lv_aload_n hx hb dX0_init_25 rfl (lv_at hl 0 rfl) ?_
  refine lv_bipush (v := nI 60) hx hb dX0_init_26 (by decide +kernel) ?_
  refine eg_newI hx hb (hts (.arrayClass .int) (by decide +kernel)) hK hP hD hS hA (by decide) (Nat.le_of_ble_eq_true rfl) (Nat.le_of_ble_eq_true rfl) dX0_init_28 (fun q3 H hP hD hS => ?_)
  have hP : va_P D vwCl [(h0, .inr (0, [.int (nI 0), .ref q1, .ref q2, .null, .null, .null, .null, .null, .int 0, .null, .null, .null, .null, .null])), (q1, .inl (cI, 60, .inl (fun _ => 0))), (q2, .inl (cI, 60, .inl (fun _ => 0))), (q3, .inl (cI, 60, .inl (fun _ => 0)))] H := hP
  have hD : va_D A [(h0, .inr (0, [.int (nI 0), .ref q1, .ref q2, .null, .null, .null, .null, .null, .int 0, .null, .null, .null, .null, .null])), (q1, .inl (cI, 60, .inl (fun _ => 0))), (q2, .inl (cI, 60, .inl (fun _ => 0))), (q3, .inl (cI, 60, .inl (fun _ => 0)))] := hD
  refine va_putF (D := D) (ci := 0) (v := .ref q3) (ty := .array .int) (C := RX0) (T := TX0) (N := 14) hx hb hts hin tyX0 tyX0_ok nmX0 hown hK hP hD hS 0 rfl rfl 3 (by decide) (hts (.fieldLink RX0 20 "EditGraph" "targets" "[I") (by decide +kernel)) (fun _ h9 => h9) rfl hinm rfl (by decide +kernel) rfl rfl (Nat.le_of_ble_eq_true rfl) dX0_init_30 (fun H locs hP hD hS => ?_)
  have hP : va_P D vwCl [(h0, .inr (0, [.int (nI 0), .ref q1, .ref q2, .ref q3, .null, .null, .null, .null, .int 0, .null, .null, .null, .null, .null])), (q1, .inl (cI, 60, .inl (fun _ => 0))), (q2, .inl (cI, 60, .inl (fun _ => 0))), (q3, .inl (cI, 60, .inl (fun _ => 0)))] H := hP
  have hD : va_D A [(h0, .inr (0, [.int (nI 0), .ref q1, .ref q2, .ref q3, .null, .null, .null, .null, .int 0, .null, .null, .null, .null, .null])), (q1, .inl (cI, 60, .inl (fun _ => 0))), (q2, .inl (cI, 60, .inl (fun _ => 0))), (q3, .inl (cI, 60, .inl (fun _ => 0)))] := hD
  refine lv_aload_n hx hb dX0_init_33 rfl (lv_at hl 0 rfl) ?_
  refine lv_bipush (v := nI 60) hx hb dX0_init_34 (by decide +kernel) ?_
  refine eg_newJ hx hb (hts (.arrayClass .long) (by decide +kernel)) hK hP hD hS hA (by decide) (Nat.le_of_ble_eq_true rfl) (Nat.le_of_ble_eq_true rfl) dX0_init_36 (fun q4 H hP hD hS => ?_)
  have hP : va_P D vwCl [(h0, .inr (0, [.int (nI 0), .ref q1, .ref q2, .ref q3, .null, .null, .null, .null, .int 0, .null, .null, .null, .null, .null])), (q1, .inl (cI, 60, .inl (fun _ => 0))), (q2, .inl (cI, 60, .inl (fun _ => 0))), (q3, .inl (cI, 60, .inl (fun _ => 0))), (q4, .inl (cJ, 60, .inr (.inl (fun _ => 0))))] H := hP
  have hD : va_D A [(h0, .inr (0, [.int (nI 0), .ref q1, .ref q2, .ref q3, .null, .null, .null, .null, .int 0, .null, .null, .null, .null, .null])), (q1, .inl (cI, 60, .inl (fun _ => 0))), (q2, .inl (cI, 60, .inl (fun _ => 0))), (q3, .inl (cI, 60, .inl (fun _ => 0))), (q4, .inl (cJ, 60, .inr (.inl (fun _ => 0))))] := hD
  refine va_putF (D := D) (ci := 0) (v := .ref q4) (ty := .array .long) (C := RX0) (T := TX0) (N := 14) hx hb hts hin tyX0 tyX0_ok nmX0 hown hK hP hD hS 0 rfl rfl 4 (by decide) (hts (.fieldLink RX0 23 "EditGraph" "parentSets" "[J") (by decide +kernel)) (fun _ h9 => h9) rfl hinm rfl (by decide +kernel) rfl rfl (Nat.le_of_ble_eq_true rfl) dX0_init_38 (fun H locs hP hD hS => ?_)
  have hP : va_P D vwCl [(h0, .inr (0, [.int (nI 0), .ref q1, .ref q2, .ref q3, .ref q4, .null, .null, .null, .int 0, .null, .null, .null, .null, .null])), (q1, .inl (cI, 60, .inl (fun _ => 0))), (q2, .inl (cI, 60, .inl (fun _ => 0))), (q3, .inl (cI, 60, .inl (fun _ => 0))), (q4, .inl (cJ, 60, .inr (.inl (fun _ => 0))))] H := hP
  have hD : va_D A [(h0, .inr (0, [.int (nI 0), .ref q1, .ref q2, .ref q3, .ref q4, .null, .null, .null, .int 0, .null, .null, .null, .null, .null])), (q1, .inl (cI, 60, .inl (fun _ => 0))), (q2, .inl (cI, 60, .inl (fun _ => 0))), (q3, .inl (cI, 60, .inl (fun _ => 0))), (q4, .inl (cJ, 60, .inr (.inl (fun _ => 0))))] := hD
  refine lv_aload_n hx hb dX0_init_41 rfl (lv_at hl 0 rfl) ?_
  refine lv_bipush (v := nI 60) hx hb dX0_init_42 (by decide +kernel) ?_
  refine eg_newJ hx hb (hts (.arrayClass .long) (by decide +kernel)) hK hP hD hS hA (by decide) (Nat.le_of_ble_eq_true rfl) (Nat.le_of_ble_eq_true rfl) dX0_init_44 (fun q5 H hP hD hS => ?_)
  have hP : va_P D vwCl [(h0, .inr (0, [.int (nI 0), .ref q1, .ref q2, .ref q3, .ref q4, .null, .null, .null, .int 0, .null, .null, .null, .null, .null])), (q1, .inl (cI, 60, .inl (fun _ => 0))), (q2, .inl (cI, 60, .inl (fun _ => 0))), (q3, .inl (cI, 60, .inl (fun _ => 0))), (q4, .inl (cJ, 60, .inr (.inl (fun _ => 0)))), (q5, .inl (cJ, 60, .inr (.inl (fun _ => 0))))] H := hP
  have hD : va_D A [(h0, .inr (0, [.int (nI 0), .ref q1, .ref q2, .ref q3, .ref q4, .null, .null, .null, .int 0, .null, .null, .null, .null, .null])), (q1, .inl (cI, 60, .inl (fun _ => 0))), (q2, .inl (cI, 60, .inl (fun _ => 0))), (q3, .inl (cI, 60, .inl (fun _ => 0))), (q4, .inl (cJ, 60, .inr (.inl (fun _ => 0)))), (q5, .inl (cJ, 60, .inr (.inl (fun _ => 0))))] := hD
  refine va_putF (D := D) (ci := 0) (v := .ref q5) (ty := .array .long) (C := RX0) (T := TX0) (N := 14) hx hb hts hin tyX0 tyX0_ok nmX0 hown hK hP hD hS 0 rfl rfl 5 (by decide) (hts (.fieldLink RX0 27 "EditGraph" "ancestorSets" "[J") (by decide +kernel)) (fun _ h9 => h9) rfl hinm rfl (by decide +kernel) rfl rfl (Nat.le_of_ble_eq_true rfl) dX0_init_46 (fun H locs hP hD hS => ?_)
  have hP : va_P D vwCl [(h0, .inr (0, [.int (nI 0), .ref q1, .ref q2, .ref q3, .ref q4, .ref q5, .null, .null, .int 0, .null, .null, .null, .null, .null])), (q1, .inl (cI, 60, .inl (fun _ => 0))), (q2, .inl (cI, 60, .inl (fun _ => 0))), (q3, .inl (cI, 60, .inl (fun _ => 0))), (q4, .inl (cJ, 60, .inr (.inl (fun _ => 0)))), (q5, .inl (cJ, 60, .inr (.inl (fun _ => 0))))] H := hP
  have hD : va_D A [(h0, .inr (0, [.int (nI 0), .ref q1, .ref q2, .ref q3, .ref q4, .ref q5, .null, .null, .int 0, .null, .null, .null, .null, .null])), (q1, .inl (cI, 60, .inl (fun _ => 0))), (q2, .inl (cI, 60, .inl (fun _ => 0))), (q3, .inl (cI, 60, .inl (fun _ => 0))), (q4, .inl (cJ, 60, .inr (.inl (fun _ => 0)))), (q5, .inl (cJ, 60, .inr (.inl (fun _ => 0))))] := hD
  refine lv_aload_n hx hb dX0_init_49 rfl (lv_at hl 0 rfl) ?_
  refine lv_bipush (v := nI 60) hx hb dX0_init_50 (by decide +kernel) ?_
  refine eg_newJ hx hb (hts (.arrayClass .long) (by decide +kernel)) hK hP hD hS hA (by decide) (Nat.le_of_ble_eq_true rfl) (Nat.le_of_ble_eq_true rfl) dX0_init_52 (fun q6 H hP hD hS => ?_)
  have hP : va_P D vwCl [(h0, .inr (0, [.int (nI 0), .ref q1, .ref q2, .ref q3, .ref q4, .ref q5, .null, .null, .int 0, .null, .null, .null, .null, .null])), (q1, .inl (cI, 60, .inl (fun _ => 0))), (q2, .inl (cI, 60, .inl (fun _ => 0))), (q3, .inl (cI, 60, .inl (fun _ => 0))), (q4, .inl (cJ, 60, .inr (.inl (fun _ => 0)))), (q5, .inl (cJ, 60, .inr (.inl (fun _ => 0)))), (q6, .inl (cJ, 60, .inr (.inl (fun _ => 0))))] H := hP
  have hD : va_D A [(h0, .inr (0, [.int (nI 0), .ref q1, .ref q2, .ref q3, .ref q4, .ref q5, .null, .null, .int 0, .null, .null, .null, .null, .null])), (q1, .inl (cI, 60, .inl (fun _ => 0))), (q2, .inl (cI, 60, .inl (fun _ => 0))), (q3, .inl (cI, 60, .inl (fun _ => 0))), (q4, .inl (cJ, 60, .inr (.inl (fun _ => 0)))), (q5, .inl (cJ, 60, .inr (.inl (fun _ => 0)))), (q6, .inl (cJ, 60, .inr (.inl (fun _ => 0))))] := hD
  refine va_putF (D := D) (ci := 0) (v := .ref q6) (ty := .array .long) (C := RX0) (T := TX0) (N := 14) hx hb hts hin tyX0 tyX0_ok nmX0 hown hK hP hD hS 0 rfl rfl 6 (by decide) (hts (.fieldLink RX0 30 "EditGraph" "laterSets" "[J") (by decide +kernel)) (fun _ h9 => h9) rfl hinm rfl (by decide +kernel) rfl rfl (Nat.le_of_ble_eq_true rfl) dX0_init_54 (fun H locs hP hD hS => ?_)
  have hP : va_P D vwCl [(h0, .inr (0, [.int (nI 0), .ref q1, .ref q2, .ref q3, .ref q4, .ref q5, .ref q6, .null, .int 0, .null, .null, .null, .null, .null])), (q1, .inl (cI, 60, .inl (fun _ => 0))), (q2, .inl (cI, 60, .inl (fun _ => 0))), (q3, .inl (cI, 60, .inl (fun _ => 0))), (q4, .inl (cJ, 60, .inr (.inl (fun _ => 0)))), (q5, .inl (cJ, 60, .inr (.inl (fun _ => 0)))), (q6, .inl (cJ, 60, .inr (.inl (fun _ => 0))))] H := hP
  have hD : va_D A [(h0, .inr (0, [.int (nI 0), .ref q1, .ref q2, .ref q3, .ref q4, .ref q5, .ref q6, .null, .int 0, .null, .null, .null, .null, .null])), (q1, .inl (cI, 60, .inl (fun _ => 0))), (q2, .inl (cI, 60, .inl (fun _ => 0))), (q3, .inl (cI, 60, .inl (fun _ => 0))), (q4, .inl (cJ, 60, .inr (.inl (fun _ => 0)))), (q5, .inl (cJ, 60, .inr (.inl (fun _ => 0)))), (q6, .inl (cJ, 60, .inr (.inl (fun _ => 0))))] := hD
  refine lv_aload_n hx hb dX0_init_57 rfl (lv_at hl 0 rfl) ?_
  refine lv_iconst (v := nI 4) hx hb dX0_init_58 (by decide +kernel) ?_
  refine eg_newJ hx hb (hts (.arrayClass .long) (by decide +kernel)) hK hP hD hS hA (by decide) (Nat.le_of_ble_eq_true rfl) (Nat.le_of_ble_eq_true rfl) dX0_init_59 (fun q7 H hP hD hS => ?_)
  have hP : va_P D vwCl [(h0, .inr (0, [.int (nI 0), .ref q1, .ref q2, .ref q3, .ref q4, .ref q5, .ref q6, .null, .int 0, .null, .null, .null, .null, .null])), (q1, .inl (cI, 60, .inl (fun _ => 0))), (q2, .inl (cI, 60, .inl (fun _ => 0))), (q3, .inl (cI, 60, .inl (fun _ => 0))), (q4, .inl (cJ, 60, .inr (.inl (fun _ => 0)))), (q5, .inl (cJ, 60, .inr (.inl (fun _ => 0)))), (q6, .inl (cJ, 60, .inr (.inl (fun _ => 0)))), (q7, .inl (cJ, 4, .inr (.inl (fun _ => 0))))] H := hP
  have hD : va_D A [(h0, .inr (0, [.int (nI 0), .ref q1, .ref q2, .ref q3, .ref q4, .ref q5, .ref q6, .null, .int 0, .null, .null, .null, .null, .null])), (q1, .inl (cI, 60, .inl (fun _ => 0))), (q2, .inl (cI, 60, .inl (fun _ => 0))), (q3, .inl (cI, 60, .inl (fun _ => 0))), (q4, .inl (cJ, 60, .inr (.inl (fun _ => 0)))), (q5, .inl (cJ, 60, .inr (.inl (fun _ => 0)))), (q6, .inl (cJ, 60, .inr (.inl (fun _ => 0)))), (q7, .inl (cJ, 4, .inr (.inl (fun _ => 0))))] := hD
  refine va_putF (D := D) (ci := 0) (v := .ref q7) (ty := .array .long) (C := RX0) (T := TX0) (N := 14) hx hb hts hin tyX0 tyX0_ok nmX0 hown hK hP hD hS 0 rfl rfl 7 (by decide) (hts (.fieldLink RX0 33 "EditGraph" "knownSets" "[J") (by decide +kernel)) (fun _ h9 => h9) rfl hinm rfl (by decide +kernel) rfl rfl (Nat.le_of_ble_eq_true rfl) dX0_init_61 (fun H locs hP hD hS => ?_)
  have hP : va_P D vwCl [(h0, .inr (0, [.int (nI 0), .ref q1, .ref q2, .ref q3, .ref q4, .ref q5, .ref q6, .ref q7, .int 0, .null, .null, .null, .null, .null])), (q1, .inl (cI, 60, .inl (fun _ => 0))), (q2, .inl (cI, 60, .inl (fun _ => 0))), (q3, .inl (cI, 60, .inl (fun _ => 0))), (q4, .inl (cJ, 60, .inr (.inl (fun _ => 0)))), (q5, .inl (cJ, 60, .inr (.inl (fun _ => 0)))), (q6, .inl (cJ, 60, .inr (.inl (fun _ => 0)))), (q7, .inl (cJ, 4, .inr (.inl (fun _ => 0))))] H := hP
  have hD : va_D A [(h0, .inr (0, [.int (nI 0), .ref q1, .ref q2, .ref q3, .ref q4, .ref q5, .ref q6, .ref q7, .int 0, .null, .null, .null, .null, .null])), (q1, .inl (cI, 60, .inl (fun _ => 0))), (q2, .inl (cI, 60, .inl (fun _ => 0))), (q3, .inl (cI, 60, .inl (fun _ => 0))), (q4, .inl (cJ, 60, .inr (.inl (fun _ => 0)))), (q5, .inl (cJ, 60, .inr (.inl (fun _ => 0)))), (q6, .inl (cJ, 60, .inr (.inl (fun _ => 0)))), (q7, .inl (cJ, 4, .inr (.inl (fun _ => 0))))] := hD
  refine lv_aload_n hx hb dX0_init_64 rfl (lv_at hl 0 rfl) ?_
  refine lv_iconst (v := -1) hx hb dX0_init_65 (by decide +kernel) ?_
  refine va_put (D := D) (ci := 0) (v := .int (-1)) (ty := .int) (C := RX0) (T := TX0) (N := 14) hx hb hts hin tyX0 tyX0_ok nmX0 hown hK hP hD hS 0 rfl rfl 8 (by decide) (hts (.fieldLink RX0 36 "EditGraph" "firstAtBeginning" "I") (by decide +kernel)) (fun _ h9 => h9) rfl (by decide +kernel) rfl rfl (Nat.le_of_ble_eq_true rfl) dX0_init_66 (fun H locs hP hD hS => ?_)
  have hP : va_P D vwCl [(h0, .inr (0, [.int (nI 0), .ref q1, .ref q2, .ref q3, .ref q4, .ref q5, .ref q6, .ref q7, .int (-1), .null, .null, .null, .null, .null])), (q1, .inl (cI, 60, .inl (fun _ => 0))), (q2, .inl (cI, 60, .inl (fun _ => 0))), (q3, .inl (cI, 60, .inl (fun _ => 0))), (q4, .inl (cJ, 60, .inr (.inl (fun _ => 0)))), (q5, .inl (cJ, 60, .inr (.inl (fun _ => 0)))), (q6, .inl (cJ, 60, .inr (.inl (fun _ => 0)))), (q7, .inl (cJ, 4, .inr (.inl (fun _ => 0))))] H := hP
  have hD : va_D A [(h0, .inr (0, [.int (nI 0), .ref q1, .ref q2, .ref q3, .ref q4, .ref q5, .ref q6, .ref q7, .int (-1), .null, .null, .null, .null, .null])), (q1, .inl (cI, 60, .inl (fun _ => 0))), (q2, .inl (cI, 60, .inl (fun _ => 0))), (q3, .inl (cI, 60, .inl (fun _ => 0))), (q4, .inl (cJ, 60, .inr (.inl (fun _ => 0)))), (q5, .inl (cJ, 60, .inr (.inl (fun _ => 0)))), (q6, .inl (cJ, 60, .inr (.inl (fun _ => 0)))), (q7, .inl (cJ, 4, .inr (.inl (fun _ => 0))))] := hD
  refine lv_aload_n hx hb dX0_init_69 rfl (lv_at hl 0 rfl) ?_
  refine lv_bipush (v := nI 60) hx hb dX0_init_70 (by decide +kernel) ?_
  refine eg_newI hx hb (hts (.arrayClass .int) (by decide +kernel)) hK hP hD hS hA (by decide) (Nat.le_of_ble_eq_true rfl) (Nat.le_of_ble_eq_true rfl) dX0_init_72 (fun q8 H hP hD hS => ?_)
  have hP : va_P D vwCl [(h0, .inr (0, [.int (nI 0), .ref q1, .ref q2, .ref q3, .ref q4, .ref q5, .ref q6, .ref q7, .int (-1), .null, .null, .null, .null, .null])), (q1, .inl (cI, 60, .inl (fun _ => 0))), (q2, .inl (cI, 60, .inl (fun _ => 0))), (q3, .inl (cI, 60, .inl (fun _ => 0))), (q4, .inl (cJ, 60, .inr (.inl (fun _ => 0)))), (q5, .inl (cJ, 60, .inr (.inl (fun _ => 0)))), (q6, .inl (cJ, 60, .inr (.inl (fun _ => 0)))), (q7, .inl (cJ, 4, .inr (.inl (fun _ => 0)))), (q8, .inl (cI, 60, .inl (fun _ => 0)))] H := hP
  have hD : va_D A [(h0, .inr (0, [.int (nI 0), .ref q1, .ref q2, .ref q3, .ref q4, .ref q5, .ref q6, .ref q7, .int (-1), .null, .null, .null, .null, .null])), (q1, .inl (cI, 60, .inl (fun _ => 0))), (q2, .inl (cI, 60, .inl (fun _ => 0))), (q3, .inl (cI, 60, .inl (fun _ => 0))), (q4, .inl (cJ, 60, .inr (.inl (fun _ => 0)))), (q5, .inl (cJ, 60, .inr (.inl (fun _ => 0)))), (q6, .inl (cJ, 60, .inr (.inl (fun _ => 0)))), (q7, .inl (cJ, 4, .inr (.inl (fun _ => 0)))), (q8, .inl (cI, 60, .inl (fun _ => 0)))] := hD
  refine va_putF (D := D) (ci := 0) (v := .ref q8) (ty := .array .int) (C := RX0) (T := TX0) (N := 14) hx hb hts hin tyX0 tyX0_ok nmX0 hown hK hP hD hS 0 rfl rfl 9 (by decide) (hts (.fieldLink RX0 39 "EditGraph" "firstHanging" "[I") (by decide +kernel)) (fun _ h9 => h9) rfl hinm rfl (by decide +kernel) rfl rfl (Nat.le_of_ble_eq_true rfl) dX0_init_74 (fun H locs hP hD hS => ?_)
  have hP : va_P D vwCl [(h0, .inr (0, [.int (nI 0), .ref q1, .ref q2, .ref q3, .ref q4, .ref q5, .ref q6, .ref q7, .int (-1), .ref q8, .null, .null, .null, .null])), (q1, .inl (cI, 60, .inl (fun _ => 0))), (q2, .inl (cI, 60, .inl (fun _ => 0))), (q3, .inl (cI, 60, .inl (fun _ => 0))), (q4, .inl (cJ, 60, .inr (.inl (fun _ => 0)))), (q5, .inl (cJ, 60, .inr (.inl (fun _ => 0)))), (q6, .inl (cJ, 60, .inr (.inl (fun _ => 0)))), (q7, .inl (cJ, 4, .inr (.inl (fun _ => 0)))), (q8, .inl (cI, 60, .inl (fun _ => 0)))] H := hP
  have hD : va_D A [(h0, .inr (0, [.int (nI 0), .ref q1, .ref q2, .ref q3, .ref q4, .ref q5, .ref q6, .ref q7, .int (-1), .ref q8, .null, .null, .null, .null])), (q1, .inl (cI, 60, .inl (fun _ => 0))), (q2, .inl (cI, 60, .inl (fun _ => 0))), (q3, .inl (cI, 60, .inl (fun _ => 0))), (q4, .inl (cJ, 60, .inr (.inl (fun _ => 0)))), (q5, .inl (cJ, 60, .inr (.inl (fun _ => 0)))), (q6, .inl (cJ, 60, .inr (.inl (fun _ => 0)))), (q7, .inl (cJ, 4, .inr (.inl (fun _ => 0)))), (q8, .inl (cI, 60, .inl (fun _ => 0)))] := hD
  refine lv_aload_n hx hb dX0_init_77 rfl (lv_at hl 0 rfl) ?_
  refine lv_bipush (v := nI 60) hx hb dX0_init_78 (by decide +kernel) ?_
  refine eg_newI hx hb (hts (.arrayClass .int) (by decide +kernel)) hK hP hD hS hA (by decide) (Nat.le_of_ble_eq_true rfl) (Nat.le_of_ble_eq_true rfl) dX0_init_80 (fun q9 H hP hD hS => ?_)
  have hP : va_P D vwCl [(h0, .inr (0, [.int (nI 0), .ref q1, .ref q2, .ref q3, .ref q4, .ref q5, .ref q6, .ref q7, .int (-1), .ref q8, .null, .null, .null, .null])), (q1, .inl (cI, 60, .inl (fun _ => 0))), (q2, .inl (cI, 60, .inl (fun _ => 0))), (q3, .inl (cI, 60, .inl (fun _ => 0))), (q4, .inl (cJ, 60, .inr (.inl (fun _ => 0)))), (q5, .inl (cJ, 60, .inr (.inl (fun _ => 0)))), (q6, .inl (cJ, 60, .inr (.inl (fun _ => 0)))), (q7, .inl (cJ, 4, .inr (.inl (fun _ => 0)))), (q8, .inl (cI, 60, .inl (fun _ => 0))), (q9, .inl (cI, 60, .inl (fun _ => 0)))] H := hP
  have hD : va_D A [(h0, .inr (0, [.int (nI 0), .ref q1, .ref q2, .ref q3, .ref q4, .ref q5, .ref q6, .ref q7, .int (-1), .ref q8, .null, .null, .null, .null])), (q1, .inl (cI, 60, .inl (fun _ => 0))), (q2, .inl (cI, 60, .inl (fun _ => 0))), (q3, .inl (cI, 60, .inl (fun _ => 0))), (q4, .inl (cJ, 60, .inr (.inl (fun _ => 0)))), (q5, .inl (cJ, 60, .inr (.inl (fun _ => 0)))), (q6, .inl (cJ, 60, .inr (.inl (fun _ => 0)))), (q7, .inl (cJ, 4, .inr (.inl (fun _ => 0)))), (q8, .inl (cI, 60, .inl (fun _ => 0))), (q9, .inl (cI, 60, .inl (fun _ => 0)))] := hD
  refine va_putF (D := D) (ci := 0) (v := .ref q9) (ty := .array .int) (C := RX0) (T := TX0) (N := 14) hx hb hts hin tyX0 tyX0_ok nmX0 hown hK hP hD hS 0 rfl rfl 10 (by decide) (hts (.fieldLink RX0 42 "EditGraph" "nextBeside" "[I") (by decide +kernel)) (fun _ h9 => h9) rfl hinm rfl (by decide +kernel) rfl rfl (Nat.le_of_ble_eq_true rfl) dX0_init_82 (fun H locs hP hD hS => ?_)
  have hP : va_P D vwCl [(h0, .inr (0, [.int (nI 0), .ref q1, .ref q2, .ref q3, .ref q4, .ref q5, .ref q6, .ref q7, .int (-1), .ref q8, .ref q9, .null, .null, .null])), (q1, .inl (cI, 60, .inl (fun _ => 0))), (q2, .inl (cI, 60, .inl (fun _ => 0))), (q3, .inl (cI, 60, .inl (fun _ => 0))), (q4, .inl (cJ, 60, .inr (.inl (fun _ => 0)))), (q5, .inl (cJ, 60, .inr (.inl (fun _ => 0)))), (q6, .inl (cJ, 60, .inr (.inl (fun _ => 0)))), (q7, .inl (cJ, 4, .inr (.inl (fun _ => 0)))), (q8, .inl (cI, 60, .inl (fun _ => 0))), (q9, .inl (cI, 60, .inl (fun _ => 0)))] H := hP
  have hD : va_D A [(h0, .inr (0, [.int (nI 0), .ref q1, .ref q2, .ref q3, .ref q4, .ref q5, .ref q6, .ref q7, .int (-1), .ref q8, .ref q9, .null, .null, .null])), (q1, .inl (cI, 60, .inl (fun _ => 0))), (q2, .inl (cI, 60, .inl (fun _ => 0))), (q3, .inl (cI, 60, .inl (fun _ => 0))), (q4, .inl (cJ, 60, .inr (.inl (fun _ => 0)))), (q5, .inl (cJ, 60, .inr (.inl (fun _ => 0)))), (q6, .inl (cJ, 60, .inr (.inl (fun _ => 0)))), (q7, .inl (cJ, 4, .inr (.inl (fun _ => 0)))), (q8, .inl (cI, 60, .inl (fun _ => 0))), (q9, .inl (cI, 60, .inl (fun _ => 0)))] := hD
  refine lv_aload_n hx hb dX0_init_85 rfl (lv_at hl 0 rfl) ?_
  refine lv_bipush (v := nI 60) hx hb dX0_init_86 (by decide +kernel) ?_
  refine eg_newI hx hb (hts (.arrayClass .int) (by decide +kernel)) hK hP hD hS hA (by decide) (Nat.le_of_ble_eq_true rfl) (Nat.le_of_ble_eq_true rfl) dX0_init_88 (fun q10 H hP hD hS => ?_)
  have hP : va_P D vwCl [(h0, .inr (0, [.int (nI 0), .ref q1, .ref q2, .ref q3, .ref q4, .ref q5, .ref q6, .ref q7, .int (-1), .ref q8, .ref q9, .null, .null, .null])), (q1, .inl (cI, 60, .inl (fun _ => 0))), (q2, .inl (cI, 60, .inl (fun _ => 0))), (q3, .inl (cI, 60, .inl (fun _ => 0))), (q4, .inl (cJ, 60, .inr (.inl (fun _ => 0)))), (q5, .inl (cJ, 60, .inr (.inl (fun _ => 0)))), (q6, .inl (cJ, 60, .inr (.inl (fun _ => 0)))), (q7, .inl (cJ, 4, .inr (.inl (fun _ => 0)))), (q8, .inl (cI, 60, .inl (fun _ => 0))), (q9, .inl (cI, 60, .inl (fun _ => 0))), (q10, .inl (cI, 60, .inl (fun _ => 0)))] H := hP
  have hD : va_D A [(h0, .inr (0, [.int (nI 0), .ref q1, .ref q2, .ref q3, .ref q4, .ref q5, .ref q6, .ref q7, .int (-1), .ref q8, .ref q9, .null, .null, .null])), (q1, .inl (cI, 60, .inl (fun _ => 0))), (q2, .inl (cI, 60, .inl (fun _ => 0))), (q3, .inl (cI, 60, .inl (fun _ => 0))), (q4, .inl (cJ, 60, .inr (.inl (fun _ => 0)))), (q5, .inl (cJ, 60, .inr (.inl (fun _ => 0)))), (q6, .inl (cJ, 60, .inr (.inl (fun _ => 0)))), (q7, .inl (cJ, 4, .inr (.inl (fun _ => 0)))), (q8, .inl (cI, 60, .inl (fun _ => 0))), (q9, .inl (cI, 60, .inl (fun _ => 0))), (q10, .inl (cI, 60, .inl (fun _ => 0)))] := hD
  refine va_putF (D := D) (ci := 0) (v := .ref q10) (ty := .array .int) (C := RX0) (T := TX0) (N := 14) hx hb hts hin tyX0 tyX0_ok nmX0 hown hK hP hD hS 0 rfl rfl 11 (by decide) (hts (.fieldLink RX0 45 "EditGraph" "textEvents" "[I") (by decide +kernel)) (fun _ h9 => h9) rfl hinm rfl (by decide +kernel) rfl rfl (Nat.le_of_ble_eq_true rfl) dX0_init_90 (fun H locs hP hD hS => ?_)
  have hP : va_P D vwCl [(h0, .inr (0, [.int (nI 0), .ref q1, .ref q2, .ref q3, .ref q4, .ref q5, .ref q6, .ref q7, .int (-1), .ref q8, .ref q9, .ref q10, .null, .null])), (q1, .inl (cI, 60, .inl (fun _ => 0))), (q2, .inl (cI, 60, .inl (fun _ => 0))), (q3, .inl (cI, 60, .inl (fun _ => 0))), (q4, .inl (cJ, 60, .inr (.inl (fun _ => 0)))), (q5, .inl (cJ, 60, .inr (.inl (fun _ => 0)))), (q6, .inl (cJ, 60, .inr (.inl (fun _ => 0)))), (q7, .inl (cJ, 4, .inr (.inl (fun _ => 0)))), (q8, .inl (cI, 60, .inl (fun _ => 0))), (q9, .inl (cI, 60, .inl (fun _ => 0))), (q10, .inl (cI, 60, .inl (fun _ => 0)))] H := hP
  have hD : va_D A [(h0, .inr (0, [.int (nI 0), .ref q1, .ref q2, .ref q3, .ref q4, .ref q5, .ref q6, .ref q7, .int (-1), .ref q8, .ref q9, .ref q10, .null, .null])), (q1, .inl (cI, 60, .inl (fun _ => 0))), (q2, .inl (cI, 60, .inl (fun _ => 0))), (q3, .inl (cI, 60, .inl (fun _ => 0))), (q4, .inl (cJ, 60, .inr (.inl (fun _ => 0)))), (q5, .inl (cJ, 60, .inr (.inl (fun _ => 0)))), (q6, .inl (cJ, 60, .inr (.inl (fun _ => 0)))), (q7, .inl (cJ, 4, .inr (.inl (fun _ => 0)))), (q8, .inl (cI, 60, .inl (fun _ => 0))), (q9, .inl (cI, 60, .inl (fun _ => 0))), (q10, .inl (cI, 60, .inl (fun _ => 0)))] := hD
  refine lv_aload_n hx hb dX0_init_93 rfl (lv_at hl 0 rfl) ?_
  refine lv_bipush (v := nI 60) hx hb dX0_init_94 (by decide +kernel) ?_
  refine eg_newI hx hb (hts (.arrayClass .int) (by decide +kernel)) hK hP hD hS hA (by decide) (Nat.le_of_ble_eq_true rfl) (Nat.le_of_ble_eq_true rfl) dX0_init_96 (fun q11 H hP hD hS => ?_)
  have hP : va_P D vwCl [(h0, .inr (0, [.int (nI 0), .ref q1, .ref q2, .ref q3, .ref q4, .ref q5, .ref q6, .ref q7, .int (-1), .ref q8, .ref q9, .ref q10, .null, .null])), (q1, .inl (cI, 60, .inl (fun _ => 0))), (q2, .inl (cI, 60, .inl (fun _ => 0))), (q3, .inl (cI, 60, .inl (fun _ => 0))), (q4, .inl (cJ, 60, .inr (.inl (fun _ => 0)))), (q5, .inl (cJ, 60, .inr (.inl (fun _ => 0)))), (q6, .inl (cJ, 60, .inr (.inl (fun _ => 0)))), (q7, .inl (cJ, 4, .inr (.inl (fun _ => 0)))), (q8, .inl (cI, 60, .inl (fun _ => 0))), (q9, .inl (cI, 60, .inl (fun _ => 0))), (q10, .inl (cI, 60, .inl (fun _ => 0))), (q11, .inl (cI, 60, .inl (fun _ => 0)))] H := hP
  have hD : va_D A [(h0, .inr (0, [.int (nI 0), .ref q1, .ref q2, .ref q3, .ref q4, .ref q5, .ref q6, .ref q7, .int (-1), .ref q8, .ref q9, .ref q10, .null, .null])), (q1, .inl (cI, 60, .inl (fun _ => 0))), (q2, .inl (cI, 60, .inl (fun _ => 0))), (q3, .inl (cI, 60, .inl (fun _ => 0))), (q4, .inl (cJ, 60, .inr (.inl (fun _ => 0)))), (q5, .inl (cJ, 60, .inr (.inl (fun _ => 0)))), (q6, .inl (cJ, 60, .inr (.inl (fun _ => 0)))), (q7, .inl (cJ, 4, .inr (.inl (fun _ => 0)))), (q8, .inl (cI, 60, .inl (fun _ => 0))), (q9, .inl (cI, 60, .inl (fun _ => 0))), (q10, .inl (cI, 60, .inl (fun _ => 0))), (q11, .inl (cI, 60, .inl (fun _ => 0)))] := hD
  refine va_putF (D := D) (ci := 0) (v := .ref q11) (ty := .array .int) (C := RX0) (T := TX0) (N := 14) hx hb hts hin tyX0 tyX0_ok nmX0 hown hK hP hD hS 0 rfl rfl 12 (by decide) (hts (.fieldLink RX0 48 "EditGraph" "waiting" "[I") (by decide +kernel)) (fun _ h9 => h9) rfl hinm rfl (by decide +kernel) rfl rfl (Nat.le_of_ble_eq_true rfl) dX0_init_98 (fun H locs hP hD hS => ?_)
  have hP : va_P D vwCl [(h0, .inr (0, [.int (nI 0), .ref q1, .ref q2, .ref q3, .ref q4, .ref q5, .ref q6, .ref q7, .int (-1), .ref q8, .ref q9, .ref q10, .ref q11, .null])), (q1, .inl (cI, 60, .inl (fun _ => 0))), (q2, .inl (cI, 60, .inl (fun _ => 0))), (q3, .inl (cI, 60, .inl (fun _ => 0))), (q4, .inl (cJ, 60, .inr (.inl (fun _ => 0)))), (q5, .inl (cJ, 60, .inr (.inl (fun _ => 0)))), (q6, .inl (cJ, 60, .inr (.inl (fun _ => 0)))), (q7, .inl (cJ, 4, .inr (.inl (fun _ => 0)))), (q8, .inl (cI, 60, .inl (fun _ => 0))), (q9, .inl (cI, 60, .inl (fun _ => 0))), (q10, .inl (cI, 60, .inl (fun _ => 0))), (q11, .inl (cI, 60, .inl (fun _ => 0)))] H := hP
  have hD : va_D A [(h0, .inr (0, [.int (nI 0), .ref q1, .ref q2, .ref q3, .ref q4, .ref q5, .ref q6, .ref q7, .int (-1), .ref q8, .ref q9, .ref q10, .ref q11, .null])), (q1, .inl (cI, 60, .inl (fun _ => 0))), (q2, .inl (cI, 60, .inl (fun _ => 0))), (q3, .inl (cI, 60, .inl (fun _ => 0))), (q4, .inl (cJ, 60, .inr (.inl (fun _ => 0)))), (q5, .inl (cJ, 60, .inr (.inl (fun _ => 0)))), (q6, .inl (cJ, 60, .inr (.inl (fun _ => 0)))), (q7, .inl (cJ, 4, .inr (.inl (fun _ => 0)))), (q8, .inl (cI, 60, .inl (fun _ => 0))), (q9, .inl (cI, 60, .inl (fun _ => 0))), (q10, .inl (cI, 60, .inl (fun _ => 0))), (q11, .inl (cI, 60, .inl (fun _ => 0)))] := hD
  refine lv_aload_n hx hb dX0_init_101 rfl (lv_at hl 0 rfl) ?_
  refine lv_bipush (v := nI 60) hx hb dX0_init_102 (by decide +kernel) ?_
  refine eg_newI hx hb (hts (.arrayClass .int) (by decide +kernel)) hK hP hD hS hA (by decide) (Nat.le_of_ble_eq_true rfl) (Nat.le_of_ble_eq_true rfl) dX0_init_104 (fun q12 H hP hD hS => ?_)
  have hP : va_P D vwCl [(h0, .inr (0, [.int (nI 0), .ref q1, .ref q2, .ref q3, .ref q4, .ref q5, .ref q6, .ref q7, .int (-1), .ref q8, .ref q9, .ref q10, .ref q11, .null])), (q1, .inl (cI, 60, .inl (fun _ => 0))), (q2, .inl (cI, 60, .inl (fun _ => 0))), (q3, .inl (cI, 60, .inl (fun _ => 0))), (q4, .inl (cJ, 60, .inr (.inl (fun _ => 0)))), (q5, .inl (cJ, 60, .inr (.inl (fun _ => 0)))), (q6, .inl (cJ, 60, .inr (.inl (fun _ => 0)))), (q7, .inl (cJ, 4, .inr (.inl (fun _ => 0)))), (q8, .inl (cI, 60, .inl (fun _ => 0))), (q9, .inl (cI, 60, .inl (fun _ => 0))), (q10, .inl (cI, 60, .inl (fun _ => 0))), (q11, .inl (cI, 60, .inl (fun _ => 0))), (q12, .inl (cI, 60, .inl (fun _ => 0)))] H := hP
  have hD : va_D A [(h0, .inr (0, [.int (nI 0), .ref q1, .ref q2, .ref q3, .ref q4, .ref q5, .ref q6, .ref q7, .int (-1), .ref q8, .ref q9, .ref q10, .ref q11, .null])), (q1, .inl (cI, 60, .inl (fun _ => 0))), (q2, .inl (cI, 60, .inl (fun _ => 0))), (q3, .inl (cI, 60, .inl (fun _ => 0))), (q4, .inl (cJ, 60, .inr (.inl (fun _ => 0)))), (q5, .inl (cJ, 60, .inr (.inl (fun _ => 0)))), (q6, .inl (cJ, 60, .inr (.inl (fun _ => 0)))), (q7, .inl (cJ, 4, .inr (.inl (fun _ => 0)))), (q8, .inl (cI, 60, .inl (fun _ => 0))), (q9, .inl (cI, 60, .inl (fun _ => 0))), (q10, .inl (cI, 60, .inl (fun _ => 0))), (q11, .inl (cI, 60, .inl (fun _ => 0))), (q12, .inl (cI, 60, .inl (fun _ => 0)))] := hD
  refine va_putF (D := D) (ci := 0) (v := .ref q12) (ty := .array .int) (C := RX0) (T := TX0) (N := 14) hx hb hts hin tyX0 tyX0_ok nmX0 hown hK hP hD hS 0 rfl rfl 13 (by decide) (hts (.fieldLink RX0 51 "EditGraph" "behind" "[I") (by decide +kernel)) (fun _ h9 => h9) rfl hinm rfl (by decide +kernel) rfl rfl (Nat.le_of_ble_eq_true rfl) dX0_init_106 (fun H locs hP hD hS => ?_)
  have hP : va_P D vwCl [(h0, .inr (0, [.int (nI 0), .ref q1, .ref q2, .ref q3, .ref q4, .ref q5, .ref q6, .ref q7, .int (-1), .ref q8, .ref q9, .ref q10, .ref q11, .ref q12])), (q1, .inl (cI, 60, .inl (fun _ => 0))), (q2, .inl (cI, 60, .inl (fun _ => 0))), (q3, .inl (cI, 60, .inl (fun _ => 0))), (q4, .inl (cJ, 60, .inr (.inl (fun _ => 0)))), (q5, .inl (cJ, 60, .inr (.inl (fun _ => 0)))), (q6, .inl (cJ, 60, .inr (.inl (fun _ => 0)))), (q7, .inl (cJ, 4, .inr (.inl (fun _ => 0)))), (q8, .inl (cI, 60, .inl (fun _ => 0))), (q9, .inl (cI, 60, .inl (fun _ => 0))), (q10, .inl (cI, 60, .inl (fun _ => 0))), (q11, .inl (cI, 60, .inl (fun _ => 0))), (q12, .inl (cI, 60, .inl (fun _ => 0)))] H := hP
  have hD : va_D A [(h0, .inr (0, [.int (nI 0), .ref q1, .ref q2, .ref q3, .ref q4, .ref q5, .ref q6, .ref q7, .int (-1), .ref q8, .ref q9, .ref q10, .ref q11, .ref q12])), (q1, .inl (cI, 60, .inl (fun _ => 0))), (q2, .inl (cI, 60, .inl (fun _ => 0))), (q3, .inl (cI, 60, .inl (fun _ => 0))), (q4, .inl (cJ, 60, .inr (.inl (fun _ => 0)))), (q5, .inl (cJ, 60, .inr (.inl (fun _ => 0)))), (q6, .inl (cJ, 60, .inr (.inl (fun _ => 0)))), (q7, .inl (cJ, 4, .inr (.inl (fun _ => 0)))), (q8, .inl (cI, 60, .inl (fun _ => 0))), (q9, .inl (cI, 60, .inl (fun _ => 0))), (q10, .inl (cI, 60, .inl (fun _ => 0))), (q11, .inl (cI, 60, .inl (fun _ => 0))), (q12, .inl (cI, 60, .inl (fun _ => 0)))] := hD
  exact W.vret hx hb hr (fun t ht hW => ⟨⟨fun k => [h0, q1, q2, q3, q4, q5, q6, q7, q8, q9, q10, q11, q12].getD k 0, rfl, rfl, by rw [ht]; exact hP, hD⟩, hS.F ht⟩) hS.2.2 dX0_init_109
end
section
-- rows for calls that catch
section EGL
variable {l : Launch} {D : va_G} {tys : List (ClassId × FieldType)} {y : MethodName} {ws : List Cond} {rm : Room} {av : List Value} {w : va_W}
/-- a reader's contract as a writer's -/
theorem eg_toW {v : Option Value} (h : eg_MR D tys l y ws rm av w v) : eg_MW D tys l y ws rm 0 0 av w (fun r w1 => r = v ∧ w1 = w) :=
  Jvm.Free.MetFree.mono h (fun a s hp => ⟨hp.1, hp.2.1, hp.2.2.1⟩) (fun _ _ _ _ _ h => h) (fun a s o s' hp hq => by
    obtain ⟨⟨ho, hh⟩, L, hF, hL⟩ := hq
    exact ⟨⟨v, w, ho, ⟨rfl, rfl⟩, rfl, by rw [hh]; exact hp.2.1, va_S.rf.F hh⟩, L, hF, fun q hq => (hL q hq).elim⟩)
theorem eg_mono {mc ms : Nat} {Rq Rq' : Option Value → va_W → Prop} (h : eg_MW D tys l y ws rm mc ms av w Rq) (hR : ∀ v w1, Rq v w1 → Rq' v w1) : eg_MW D tys l y ws rm mc ms av w Rq' :=
  Jvm.Free.MetFree.mono h (fun a s hp => hp) (fun _ _ _ _ _ h => h) (fun a s o s' hp hq => by
    obtain ⟨⟨v, w1, h1, h2, h3⟩, h4⟩ := hq
    exact ⟨⟨v, w1, h1, hR v w1 h2, h3⟩, h4⟩)
/-- a call that catches what it must: a writer's end; it needs what throws need -/
abbrev eg_ML (D : va_G) (tys : List (ClassId × FieldType)) (l : Launch) (y : MethodName) (ws : List Cond) (rm : Room) (av : List Value) (w0 : va_W) (Rq : Option Value → va_W → Prop) : Prop :=
  Met l y ws rm (va_Pc av (fun U => va_P D vwCl w0 U.heap ∧ va_K D vwCl tys U ∧ va_D (fun _ => True) w0 ∧ eg_T (eg_A w0) U U.heap)) (eg_Wq D w0 Rq) 1 6 (eg_A w0)
theorem eg_monoL {Rq Rq' : Option Value → va_W → Prop} (h : eg_ML D tys l y ws rm av w Rq) (hR : ∀ v w1, Rq v w1 → Rq' v w1) : eg_ML D tys l y ws rm av w Rq' :=
  Jvm.Free.MetFree.mono h (fun a s hp => hp) (fun _ _ _ _ _ h => h) (fun a s o s' hp hq => by
    obtain ⟨⟨v, w1, h1, h2, h3⟩, h4⟩ := hq
    exact ⟨⟨v, w1, h1, hR v w1 h2, h3⟩, h4⟩)
theorem eg_ofWH {ws' : List Cond} {Pc : Array Value → State → Prop} {Qc : Array Value → State → Outcome → State → Prop} {mc ms : Nat} {free : Addr → Prop} {cc : ByteArray} {maxL : Nat} {ret : Option FieldType} {hh : List (Nat × Nat × Nat × Nat)}
    (hy : plainName y.cls = true) (hw : ws = Cond.codeWith y cc maxL ret hh :: ws')
    (body : ∀ p e s m args below meth c s₁, BodyLoose p l y (headSpec ws rm) cc maxL ret e s m args below meth c s₁ → c.maxLocals = maxL → c.exceptionTable.toList = tableOf hh → Pc args s →
      W p l e (headSpec ws rm).room s m args below meth c s.heap [] 0 0 (MQ below Qc args s mc ms free) (entryFrame m args maxL)) : Met l y ws rm Pc Qc mc ms free := by
  refine MetFree.of_bodyS (code := cc) (maxLocals := maxL) (ret := ret) hy ?_ ?_
  · intro args s m h hn
    obtain ⟨m9, meth, c, hn9, h1, h2, h3, h4, -, h5, h6, -⟩ := Cond.codeWith_spec (atoms_spec (ws := ws) h _ (by rw [hw]; exact List.mem_cons_self))
    cases hn.symm.trans hn9
    exact ⟨meth, c, h1, h2, h3, h4, h5, h6⟩
  · intro p e s m args below meth c s₁ B hml hP _
    have hh0 : s₁.heap = s.heap := by rw [B.state]; rfl
    have hT9 := vx_table (x := y) B (atoms_spec (ws := ws) B.pre _ (by rw [hw]; exact List.mem_cons_self))
    obtain ⟨t, a1, o, b1, b2, b3⟩ := body p e s m args below meth c s₁ B hml hT9 hP s₁ hh0 (Stand.of_body B)
    exact ⟨t, o, a1, b1, b2, ⟨b3.1, b3.2⟩⟩
end EGL
section EGLC
variable {p : Program} {l : Launch} {e : Env} {R : Room} {s : State} {m : MethodId} {args : Array Value} {below : List Frame} {meth : Method} {c : Code} {H : Heap} {locs : List Loc} {cells slots : Nat} {Q : State → Prop}
variable {cc : ByteArray} {pc : Nat} {ls : Array Slot} {rest st0 : List Value} {D : va_G} {tys : List (ClassId × FieldType)} {w wc wr : va_W} {A : Nat → Prop}
variable {y : MethodName} {bytes : ByteArray} {maxL nL n index : Nat} {ret : Option FieldType} {hh : List (Nat × Nat × Nat × Nat)} {ws Ts : List Cond} {rm : Room} {own : String} {As : List Value} {Rq : Option Value → va_W → Prop}
/-- a call of such a method on some of the cells -/
theorem eg_callLc (hx : p.tables.exec = Jvm.exec) (hb : c.code = cc) (hml : c.maxLocals = nL) (hown : s.vm.findClass own = some m.cls) (hts : ∀ w ∈ Ts, w.before args s = true) (hK : va_K D vwCl tys s) (hP : va_P D vwCl w H) (hD : va_D A w) (hS : va_S A s.heap H locs) (hT9 : eg_T A s s.heap) (isC isR : List Nat) (hC : isC.map (fun i => w[i]?) = wc.map some) (hR : isR.map (fun i => w[i]?) = wr.map some) (hnd : va_nd (isR ++ isC) = true)
    (hM : eg_ML D tys l y ws rm As wc Rq) (cw : vx_CSW R s args own index y bytes maxL ret hh ws rm 1 6 n)
    (hn : As.length = n) (hsize : ls.size = nL) (hst : st0 = As.reverse ++ rest) (hroom : (rest.map fun v => v.category).sum ≤ 8) (hdg : decode cc pc = .ok (.invokestatic index, 3)) (hf : cells + 1 ≤ R.cells ∧ slots + 6 ≤ R.slots)
    (kk : ∀ (v : Option Value) (w1 : va_W) (H1 : Heap) (locs1 : List Loc), Rq v w1 → w1.map Prod.fst = wc.map Prod.fst → va_P D vwCl (wr ++ w1) H1 → va_D A (wr ++ w1) → va_S A s.heap H1 locs1 → W p l e R s m args below meth c H1 locs1 (cells + 1) (slots + 6) Q (F0 m (pc + 3) ls (v.toList ++ rest))) : W p l e R s m args below meth c H locs cells slots Q (F0 m pc ls st0) := by
  have hD2 : va_D A wc := hD.sub isC (eg_nd_r _ _ hnd) hC
  have hr := vx_runSW (g := F0 m pc ls st0) (H := H) (locs := locs) (cells := cells) (slots := slots) (e := e) (below := below) (meth := meth) (rest := rest) ⟨hx, hb, hml, hown, hts⟩ hM cw ⟨fun a U g mk q => by obtain ⟨q0, qP, qK, qD, qT⟩ := q; exact ⟨q0, qP, va_K.moved (u := U) (U := U.calling g mk a) (Vm.Alike.refl U.vm) qK, qD, qT.calling⟩, fun U hU hW => ⟨rfl, by rw [hU]; exact eg_cut hP isC hC, va_K.moved hW.alike hK, hD2.weaken (fun _ _ _ _ => trivial), hT9.at hS (fun q h => eg_D_in hD2 h) hU hW⟩⟩ rfl hn hsize hst (lv_room hroom) hdg hf
  intro T hT X
  obtain ⟨v', st₀, t, T', L, h0, X', hL, e1, e2, ⟨v, w1, hv, hR2, hw1, hP1, hF⟩, st⟩ := hr T hT X
  cases hv
  obtain ⟨-, k2, k3⟩ := vx_keep h0 e1 hS (fun q _ h => eg_D_in hD2 h) (fun q h => eg_D_in hD2 h) hL hF
  obtain ⟨j1, j2⟩ := eg_join hP hD isC isR hC hR hnd k2 hw1 (by rw [e1]; exact hP1)
  obtain ⟨t2, a1, b1⟩ := kk v' w1 T'.heap (locs ++ L) hR2 hw1 j1 j2 k3 T' rfl X'
  exact ⟨t2, st t2 a1, b1⟩
end EGLC
abbrev rmL : Room := { frames := 9, cells := 1, slots := 6, locals := 150 }
def wO (o : Nat) (cJ : ClassId) (out : Nat → Int64) : va_W := [(o, .inl (cJ, 1, .inr (.inl out)))]
end
