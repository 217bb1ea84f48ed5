-- MY ROWS over the kit's: readers, writers, throwers as three forms of contract; numbers as nI; truth values as eb
section EGA
/-- the addresses of a world -/
def eg_A (w : va_W) : Nat → Prop := fun q => q ∈ w.map Prod.fst
theorem eg_A_eq {w w' : va_W} (h : w'.map Prod.fst = w.map Prod.fst) : eg_A w' = eg_A w := by unfold eg_A; rw [h]
theorem eg_A_of {w : va_W} {k : Nat} {q : Nat × va_E} (h : w[k]? = some q) : eg_A w q.1 := List.mem_map.mpr ⟨q, List.mem_of_getElem? h, rfl⟩
theorem eg_A_ge {w : va_W} {sz q : Nat} (h : eg_A w q) : va_A w sz q := by
  obtain ⟨e, he, h2⟩ := List.mem_map.mp h
  obtain ⟨k, hk⟩ := List.getElem?_of_mem he
  exact Or.inl ⟨k, e.2, by rw [hk, ← h2]⟩
/-- apartness depends on the addresses alone -/
theorem eg_D_same {A : Nat → Prop} {w w' : va_W} (hD : va_D A w) (h : w'.map Prod.fst = w.map Prod.fst) : va_D A w' := by
  have key : ∀ (k : Nat) (q : Nat × va_E), w'[k]? = some q → ∃ q' : Nat × va_E, w[k]? = some q' ∧ q'.1 = q.1 := by
    intro k q hq
    have h1 : (w'.map Prod.fst)[k]? = some q.1 := by rw [List.getElem?_map, hq]; rfl
    rw [h, List.getElem?_map] at h1
    cases hw : w[k]? with
    | none => rw [hw] at h1; cases h1
    | some q' => rw [hw] at h1; exact ⟨q', rfl, Option.some.inj h1⟩
  refine ⟨fun i j p q hp hq e => ?_, fun k q hq => ?_⟩
  · obtain ⟨p', hp', ep⟩ := key i p hp
    obtain ⟨q', hq', eq⟩ := key j q hq
    exact hD.1 i j p' q' hp' hq' (by rw [ep, eq, e])
  · obtain ⟨q', hq', eq⟩ := key k q hq
    rw [← eq]
    exact hD.2 k q' hq'
theorem eg_D_of {A : Nat → Prop} {w : va_W} (hD : va_D A w) : va_D (eg_A w) w := ⟨hD.1, fun _ _ hq => eg_A_of hq⟩
theorem eg_D_in {A : Nat → Prop} {w : va_W} (hD : va_D A w) {q : Nat} (h : eg_A w q) : A q := by
  obtain ⟨e, he, h2⟩ := List.mem_map.mp h
  obtain ⟨k, hk⟩ := List.getElem?_of_mem he
  rw [← h2]
  exact hD.2 k e hk
theorem eg_S_F {A : Nat → Prop} {s t : State} {H : Heap} {locs : List Loc} (h : va_S A s.heap H locs) (ht : t.heap = H) : va_F A s t := h.F ht
end EGA
/-- a truth value as the machine holds it -/
def eb (b : Bool) : Int32 := if b then 1 else 0
theorem eb_0 {b : Bool} : eb b = 0 ↔ b = false := by cases b <;> decide
theorem eb_t : eb true = 1 := rfl
theorem eb_f : eb false = 0 := rfl
theorem eb_nar {b : Bool} : narrow .boolean (.int (eb b)) = .int (eb b) := by cases b <;> rfl
theorem eg_inc1 (i : Nat) : nI i + Int32.ofInt 1 = nI (i + 1) := nI_1 i
theorem eg_inc4 (i : Nat) : nI i + Int32.ofInt 4 = nI (i + 4) := nI_add i 4
theorem eg_dec1 {i : Nat} (h : 0 < i) : nI i + Int32.ofInt (-1) = nI (i - 1) := by
  obtain ⟨j, rfl⟩ : ∃ j, i = j + 1 := ⟨i - 1, by omega⟩
  exact pk_m1 j
theorem eg_cmp0 {x y : Int64} : lg_cmp x y = 0 ↔ x = y := by
  by_cases h1 : y < x
  · have e1 : lg_cmp x y = 1 := by simp [lg_cmp, h1]
    rw [e1]
    constructor
    · intro h; exact absurd h (by decide)
    · intro h; subst h; exact absurd h1 (by rw [Int64.lt_iff_toInt_lt]; omega)
  · by_cases h2 : x = y
    · subst h2
      have e1 : lg_cmp x x = 0 := by simp [lg_cmp]
      rw [e1]; simp
    · have e1 : lg_cmp x y = -1 := by simp [lg_cmp, h1, h2]
      rw [e1]
      constructor
      · intro h; exact absurd h (by decide)
      · intro h; exact absurd h h2
/-- a reader's end: this answer, the heap as it was -/
def eg_R (v : Option Value) : Array Value → State → Outcome → State → Prop := fun _ st oc t => oc = .returned v ∧ t.heap = st.heap
abbrev eg_MR (D : va_G) (tys : List (ClassId × FieldType)) (l : Launch) (y : MethodName) (ws : List Cond) (rm : Room) (av : List Value) (w : va_W) (v : Option Value) : Prop :=
  Met l y ws rm (va_Pc av (fun U => va_P D vwCl w U.heap ∧ va_K D vwCl tys U)) (eg_R v) 0 0 (fun _ => False)
/-- a writer's end: an answer and a world at the same addresses, all else as it was -/
def eg_Wq (D : va_G) (w0 : va_W) (Rq : Option Value → va_W → Prop) : Array Value → State → Outcome → State → Prop := fun _ st oc t =>
  ∃ (v : Option Value) (w1 : va_W), oc = .returned v ∧ Rq v w1 ∧ w1.map Prod.fst = w0.map Prod.fst ∧ va_P D vwCl w1 t.heap ∧ va_F (eg_A w0) st t
abbrev eg_MW (D : va_G) (tys : List (ClassId × FieldType)) (l : Launch) (y : MethodName) (ws : List Cond) (rm : Room) (mc ms : Nat) (av : List Value) (w0 : va_W) (Rq : Option Value → va_W → Prop) : Prop :=
  Met l y ws rm (va_Pc av (fun U => va_P D vwCl w0 U.heap ∧ va_K D vwCl tys U ∧ va_D (fun _ => True) w0)) (eg_Wq D w0 Rq) mc ms (eg_A w0)
/-- the words of throws and catches that speak of classes alone -/
def eg_N (U : State) : Prop := va_Nw (.declares ⟨"java/lang/RuntimeException", "<init>", "(Ljava/lang/String;)V"⟩) U ∧ va_Nw (.declares ⟨"java/lang/Exception", "<init>", "(Ljava/lang/String;)V"⟩) U ∧ va_Nw (.declares ⟨"java/lang/Throwable", "<init>", "(Ljava/lang/String;)V"⟩) U ∧
  va_Nw (.castable "java/lang/IndexOutOfBoundsException" "java/lang/IndexOutOfBoundsException") U ∧ va_Nw (.castable "java/lang/IllegalArgumentException" "java/lang/IllegalArgumentException") U ∧ va_Nw (.castable "java/lang/IllegalStateException" "java/lang/IllegalStateException") U ∧
  va_Nc "java/lang/IllegalArgumentException" "java/lang/IndexOutOfBoundsException" U ∧ va_Nc "java/lang/IllegalStateException" "java/lang/IndexOutOfBoundsException" U ∧ va_Nc "java/lang/IllegalStateException" "java/lang/IllegalArgumentException" U
theorem eg_N.at {s U : State} (h : eg_N s) (hW : s.WarmedH U.vm) : eg_N U :=
  ⟨va_Nw.warmD hW h.1, va_Nw.warmD hW h.2.1, va_Nw.warmD hW h.2.2.1, va_Nw.warmC hW h.2.2.2.1, va_Nw.warmC hW h.2.2.2.2.1, va_Nw.warmC hW h.2.2.2.2.2.1, va_Nc.moved hW.alike h.2.2.2.2.2.2.1, va_Nc.moved hW.alike h.2.2.2.2.2.2.2.1, va_Nc.moved hW.alike h.2.2.2.2.2.2.2.2⟩
theorem eg_N.same {s U : State} (h : eg_N s) (hv : s.vm = U.vm) : eg_N U := h.at (by rw [← hv]; exact State.WarmedH.refl s)
/-- what a throw needs of the JDK's statics and of the constant texts -/
def eg_T (A : Nat → Prop) (U : State) (H : Heap) : Prop := ((vx_Zq Bundle.tN "UNASSIGNED_STACK" Bundle.steD A U H ∧ vx_Zq Bundle.tN "SUPPRESSED_SENTINEL" Bundle.listD A U H) ∧ eg_N U) ∧
  ((∃ a, vk_R RX0 128 "no such author" a U) ∧ (∃ a, vk_R RX0 134 "no such event" a U) ∧ (∃ a, vk_R RX0 136 "no such place" a U) ∧ (∃ a, vk_R RX0 140 "no room for one more event" a U) ∧ (∃ a, vk_R RX0 68 "no such letter" a U))
theorem eg_T.at {A B : Nat → Prop} {s U : State} {H : Heap} {locs : List Loc} (h : eg_T A s s.heap) (hS : va_S A s.heap H locs) (hB : ∀ q, B q → A q) (hU : U.heap = H) (hW : s.WarmedH U.vm) : eg_T B U U.heap := by
  obtain ⟨⟨⟨h1, h2⟩, h3⟩, ⟨a1, k1⟩, ⟨a2, k2⟩, ⟨a3, k3⟩, ⟨a4, k4⟩, a5, k5⟩ := h
  rw [hU]
  exact ⟨⟨⟨((h1.kept hS.2.1).narrow hB).moved hW.alike, ((h2.kept hS.2.1).narrow hB).moved hW.alike⟩, h3.at hW⟩, ⟨a1, vk_R.warm hW k1⟩, ⟨a2, vk_R.warm hW k2⟩, ⟨a3, vk_R.warm hW k3⟩, ⟨a4, vk_R.warm hW k4⟩, a5, vk_R.warm hW k5⟩
theorem eg_T.calling {A : Nat → Prop} {U : State} {g : JFrame} {mk : MethodId} {a : Array Value} (h : eg_T A U U.heap) : eg_T A (U.calling g mk a) (U.calling g mk a).heap := by
  obtain ⟨⟨⟨h1, h2⟩, h3⟩, ⟨a1, k1⟩, ⟨a2, k2⟩, ⟨a3, k3⟩, ⟨a4, k4⟩, a5, k5⟩ := h
  exact ⟨⟨⟨vx_Zq.moved (u := U) (U := U.calling g mk a) (Vm.Alike.refl U.vm) h1, vx_Zq.moved (u := U) (U := U.calling g mk a) (Vm.Alike.refl U.vm) h2⟩, eg_N.same (U := U.calling g mk a) h3 rfl⟩, ⟨a1, vk_R.same rfl k1⟩, ⟨a2, vk_R.same rfl k2⟩, ⟨a3, vk_R.same rfl k3⟩, ⟨a4, vk_R.same rfl k4⟩, a5, vk_R.same rfl k5⟩
/-- a thrower's end: it throws an E, and leaves a world at the same addresses, all else as it was -/
def eg_XC (D : va_G) (w0 : va_W) (E : String) (Rq : va_W → Prop) : String → State → State → Prop := fun E' st t => E' = E ∧ st.heap.size + 1 ≤ t.heap.size ∧ ∃ w1 : va_W, Rq w1 ∧ w1.map Prod.fst = w0.map Prod.fst ∧ va_P D vwCl w1 t.heap ∧ va_F (eg_A w0) st t
abbrev eg_MX (D : va_G) (tys : List (ClassId × FieldType)) (l : Launch) (y : MethodName) (ws : List Cond) (rm : Room) (av : List Value) (w0 : va_W) (E : String) (Rq : va_W → Prop) : Prop :=
  vx_Met l y ws rm (va_Pc av (fun U => va_P D vwCl w0 U.heap ∧ va_K D vwCl tys U ∧ va_D (fun _ => True) w0 ∧ eg_T (eg_A w0) U U.heap)) (fun _ _ _ _ => False) (eg_XC D w0 E Rq) 1 6 (eg_A w0)
section EGR
variable {p : Program} {l : Launch} {e : Env} {R : Room} {s : State} {m : MethodId} {args : Array Value} {below : List Frame} {meth : Method} {c : Code} {H : Heap} {locs : List Loc} {cells slots : Nat} {Q : State → Prop}
variable {cc : ByteArray} {pc : Nat} {ls : Array Slot} {rest st0 : List Value} {D : va_G} {tys : List (ClassId × FieldType)} {w w0 w' : va_W} {A : Nat → Prop} {H0 : Heap} {a : Nat}
theorem eg_iald (hx : p.tables.exec = Jvm.exec) (hb : c.code = cc) (hK : va_K D vwCl tys s) (hP : va_P D vwCl w H) (q0 t0 : Nat) {cA : ClassId} {N i : Nat} {f : Nat → Int32} (ha : w[q0]? = some (a, .inl (cA, N, .inl f))) (ht : tys[t0]? = some (cA, .int)) (hi : i < N) (hN : N < 2 ^ 31) (hdg : decode cc pc = .ok (.iaload, 1))
    (kk : W p l e R s m args below meth c H locs cells slots Q (F0 m (pc + 1) ls (.int (f i) :: rest))) : W p l e R s m args below meth c H locs cells slots Q (F0 m pc ls (.int (nI i) :: .ref a :: rest)) :=
  va_iald hx hb hK hP q0 t0 ha ht (vp_in_nI hi hN) hdg (by rw [nI_clamp (Nat.lt_trans hi hN)]; exact kk)
theorem eg_lald (hx : p.tables.exec = Jvm.exec) (hb : c.code = cc) (hK : va_K D vwCl tys s) (hP : va_P D vwCl w H) (q0 t0 : Nat) {cA : ClassId} {N i : Nat} {f : Nat → Int64} (ha : w[q0]? = some (a, .inl (cA, N, .inr (.inl f)))) (ht : tys[t0]? = some (cA, .long)) (hi : i < N) (hN : N < 2 ^ 31) (hdg : decode cc pc = .ok (.laload, 1))
    (kk : W p l e R s m args below meth c H locs cells slots Q (F0 m (pc + 1) ls (.long (f i) :: rest))) : W p l e R s m args below meth c H locs cells slots Q (F0 m pc ls (.int (nI i) :: .ref a :: rest)) :=
  va_lald hx hb hK hP q0 t0 ha ht (vp_in_nI hi hN) hdg (by rw [nI_clamp (Nat.lt_trans hi hN)]; exact kk)
theorem eg_iast (hx : p.tables.exec = Jvm.exec) (hb : c.code = cc) (hK : va_K D vwCl tys s) (hP : va_P D vwCl w H) (hD : va_D A w0) (hw : w.map Prod.fst = w0.map Prod.fst) (hS : va_S A H0 H locs) (q0 t0 : Nat) {cA : ClassId} {N i : Nat} {f : Nat → Int32} {x : Int32} (ha : w[q0]? = some (a, .inl (cA, N, .inl f))) (ht : tys[t0]? = some (cA, .int)) (hi : i < N) (hN : N < 2 ^ 31) (hdg : decode cc pc = .ok (.iastore, 1)) (hw' : w.set q0 (a, .inl (cA, N, .inl (upd f i x))) = w')
    (kk : ∀ (H1 : Heap) (locs1 : List Loc), va_P D vwCl w' H1 → va_S A H0 H1 locs1 → W p l e R s m args below meth c H1 locs1 cells slots Q (F0 m (pc + 1) ls rest)) : W p l e R s m args below meth c H locs cells slots Q (F0 m pc ls (.int x :: .int (nI i) :: .ref a :: rest)) := by
  refine va_iast hx hb hK hP (eg_D_same hD hw) hS q0 t0 ha ht (vp_in_nI hi hN) hdg (fun H1 locs1 p1 _ s1 => kk H1 locs1 ?_ s1)
  rw [nI_clamp (Nat.lt_trans hi hN), hw'] at p1
  exact p1
theorem eg_last (hx : p.tables.exec = Jvm.exec) (hb : c.code = cc) (hK : va_K D vwCl tys s) (hP : va_P D vwCl w H) (hD : va_D A w0) (hw : w.map Prod.fst = w0.map Prod.fst) (hS : va_S A H0 H locs) (q0 t0 : Nat) {cA : ClassId} {N i : Nat} {f : Nat → Int64} {x : Int64} (ha : w[q0]? = some (a, .inl (cA, N, .inr (.inl f)))) (ht : tys[t0]? = some (cA, .long)) (hi : i < N) (hN : N < 2 ^ 31) (hdg : decode cc pc = .ok (.lastore, 1)) (hw' : w.set q0 (a, .inl (cA, N, .inr (.inl (vp_updL f i x)))) = w')
    (kk : ∀ (H1 : Heap) (locs1 : List Loc), va_P D vwCl w' H1 → va_S A H0 H1 locs1 → W p l e R s m args below meth c H1 locs1 cells slots Q (F0 m (pc + 1) ls rest)) : W p l e R s m args below meth c H locs cells slots Q (F0 m pc ls (.long x :: .int (nI i) :: .ref a :: rest)) := by
  refine va_last hx hb hK hP (eg_D_same hD hw) hS q0 t0 ha ht (vp_in_nI hi hN) hdg (fun H1 locs1 p1 _ s1 => kk H1 locs1 ?_ s1)
  rw [nI_clamp (Nat.lt_trans hi hN), hw'] at p1
  exact p1
theorem eg_ifeq_b (hx : p.tables.exec = Jvm.exec) (hb : c.code = cc) {b : Bool} {off : Int} {tgt : Nat} (hdg : decode cc pc = .ok (.ifCond .eq off, 3)) (ht : (pc : Int) + off = (tgt : Int)) (kt : b = false → W p l e R s m args below meth c H locs cells slots Q (F0 m tgt ls rest)) (kf : b = true → W p l e R s m args below meth c H locs cells slots Q (F0 m (pc + 3) ls rest)) : W p l e R s m args below meth c H locs cells slots Q (F0 m pc ls (.int (eb b) :: rest)) :=
  lv_if_eq hx hb hdg ht (fun h => kt (eb_0.mp h)) (fun h => kf (by cases b with | true => rfl | false => exact absurd rfl h))
theorem eg_ifne_b (hx : p.tables.exec = Jvm.exec) (hb : c.code = cc) {b : Bool} {off : Int} {tgt : Nat} (hdg : decode cc pc = .ok (.ifCond .ne off, 3)) (ht : (pc : Int) + off = (tgt : Int)) (kt : b = true → W p l e R s m args below meth c H locs cells slots Q (F0 m tgt ls rest)) (kf : b = false → W p l e R s m args below meth c H locs cells slots Q (F0 m (pc + 3) ls rest)) : W p l e R s m args below meth c H locs cells slots Q (F0 m pc ls (.int (eb b) :: rest)) :=
  lv_if_ne hx hb hdg ht (fun h => kt (by cases b with | true => rfl | false => exact absurd rfl h)) (fun h => kf (eb_0.mp h))
theorem eg_lcmp_eq (hx : p.tables.exec = Jvm.exec) (hb : c.code = cc) {x y : Int64} {off : Int} {tgt pc1 : Nat} (h1 : decode cc pc = .ok (.lcmp, 1)) (hp : pc + 1 = pc1) (hdg : decode cc pc1 = .ok (.ifCond .eq off, 3)) (ht : (pc1 : Int) + off = (tgt : Int)) (kt : x = y → W p l e R s m args below meth c H locs cells slots Q (F0 m tgt ls rest)) (kf : ¬ x = y → W p l e R s m args below meth c H locs cells slots Q (F0 m (pc1 + 3) ls rest)) : W p l e R s m args below meth c H locs cells slots Q (F0 m pc ls (.long y :: .long x :: rest)) := by
  subst hp
  exact W.lcmp hx hb h1 (lv_if_eq hx hb hdg ht (fun h => kt (eg_cmp0.mp h)) (fun h => kf (fun q => h (eg_cmp0.mpr q))))
theorem eg_lcmp_ne (hx : p.tables.exec = Jvm.exec) (hb : c.code = cc) {x y : Int64} {off : Int} {tgt pc1 : Nat} (h1 : decode cc pc = .ok (.lcmp, 1)) (hp : pc + 1 = pc1) (hdg : decode cc pc1 = .ok (.ifCond .ne off, 3)) (ht : (pc1 : Int) + off = (tgt : Int)) (kt : ¬ x = y → W p l e R s m args below meth c H locs cells slots Q (F0 m tgt ls rest)) (kf : x = y → W p l e R s m args below meth c H locs cells slots Q (F0 m (pc1 + 3) ls rest)) : W p l e R s m args below meth c H locs cells slots Q (F0 m pc ls (.long y :: .long x :: rest)) := by
  subst hp
  exact W.lcmp hx hb h1 (lv_if_ne hx hb hdg ht (fun h => kt (fun q => h (eg_cmp0.mpr q))) (fun h => kf (eg_cmp0.mp h)))
theorem eg_icmp_ge (hx : p.tables.exec = Jvm.exec) (hb : c.code = cc) {i j : Nat} {off : Int} {tgt : Nat} (hdg : decode cc pc = .ok (.if_icmp .ge off, 3)) (ht : (pc : Int) + off = (tgt : Int)) (hi : i < 2 ^ 31) (hj : j < 2 ^ 31) (kt : j ≤ i → W p l e R s m args below meth c H locs cells slots Q (F0 m tgt ls rest)) (kf : i < j → W p l e R s m args below meth c H locs cells slots Q (F0 m (pc + 3) ls rest)) : W p l e R s m args below meth c H locs cells slots Q (F0 m pc ls (.int (nI j) :: .int (nI i) :: rest)) :=
  lv_icmp_ge hx hb hdg ht (fun h => kt ((nI_leI hj hi).mp h)) (fun h => kf (Nat.lt_of_not_le (fun q => h ((nI_leI hj hi).mpr q))))
theorem eg_icmp_lt (hx : p.tables.exec = Jvm.exec) (hb : c.code = cc) {i j : Nat} {off : Int} {tgt : Nat} (hdg : decode cc pc = .ok (.if_icmp .lt off, 3)) (ht : (pc : Int) + off = (tgt : Int)) (hi : i < 2 ^ 31) (hj : j < 2 ^ 31) (kt : i < j → W p l e R s m args below meth c H locs cells slots Q (F0 m tgt ls rest)) (kf : j ≤ i → W p l e R s m args below meth c H locs cells slots Q (F0 m (pc + 3) ls rest)) : W p l e R s m args below meth c H locs cells slots Q (F0 m pc ls (.int (nI j) :: .int (nI i) :: rest)) :=
  lv_icmp_lt hx hb hdg ht (fun h => kt ((nI_ltI hi hj).mp h)) (fun h => kf (Nat.le_of_not_lt (fun q => h ((nI_ltI hi hj).mpr q))))
theorem eg_icmp_gt (hx : p.tables.exec = Jvm.exec) (hb : c.code = cc) {i j : Nat} {off : Int} {tgt : Nat} (hdg : decode cc pc = .ok (.if_icmp .gt off, 3)) (ht : (pc : Int) + off = (tgt : Int)) (hi : i < 2 ^ 31) (hj : j < 2 ^ 31) (kt : j < i → W p l e R s m args below meth c H locs cells slots Q (F0 m tgt ls rest)) (kf : i ≤ j → W p l e R s m args below meth c H locs cells slots Q (F0 m (pc + 3) ls rest)) : W p l e R s m args below meth c H locs cells slots Q (F0 m pc ls (.int (nI j) :: .int (nI i) :: rest)) :=
  lv_icmp_gt hx hb hdg ht (fun h => kt ((nI_ltI hj hi).mp h)) (fun h => kf (Nat.le_of_not_lt (fun q => h ((nI_ltI hj hi).mpr q))))
theorem eg_icmp_le (hx : p.tables.exec = Jvm.exec) (hb : c.code = cc) {i j : Nat} {off : Int} {tgt : Nat} (hdg : decode cc pc = .ok (.if_icmp .le off, 3)) (ht : (pc : Int) + off = (tgt : Int)) (hi : i < 2 ^ 31) (hj : j < 2 ^ 31) (kt : i ≤ j → W p l e R s m args below meth c H locs cells slots Q (F0 m tgt ls rest)) (kf : j < i → W p l e R s m args below meth c H locs cells slots Q (F0 m (pc + 3) ls rest)) : W p l e R s m args below meth c H locs cells slots Q (F0 m pc ls (.int (nI j) :: .int (nI i) :: rest)) :=
  lv_icmp_le hx hb hdg ht (fun h => kt ((nI_leI hi hj).mp h)) (fun h => kf (Nat.lt_of_not_le (fun q => h ((nI_leI hi hj).mpr q))))
theorem eg_if_le (hx : p.tables.exec = Jvm.exec) (hb : c.code = cc) {i : Nat} {off : Int} {tgt : Nat} (hdg : decode cc pc = .ok (.ifCond .le off, 3)) (ht : (pc : Int) + off = (tgt : Int)) (hi : i < 2 ^ 31) (kt : i = 0 → W p l e R s m args below meth c H locs cells slots Q (F0 m tgt ls rest)) (kf : 0 < i → W p l e R s m args below meth c H locs cells slots Q (F0 m (pc + 3) ls rest)) : W p l e R s m args below meth c H locs cells slots Q (F0 m pc ls (.int (nI i) :: rest)) :=
  lv_if_le hx hb hdg ht (fun h => kt (by have := (nI_leI (a := i) (b := 0) hi (by decide)).mp (by rw [nI_0]; exact h); omega)) (fun h => kf (Nat.pos_of_ne_zero (fun q => h (by rw [q, nI_0]; decide))))
theorem eg_if_ne (hx : p.tables.exec = Jvm.exec) (hb : c.code = cc) {i : Nat} {off : Int} {tgt : Nat} (hdg : decode cc pc = .ok (.ifCond .ne off, 3)) (ht : (pc : Int) + off = (tgt : Int)) (hi : i < 2 ^ 31) (kt : 0 < i → W p l e R s m args below meth c H locs cells slots Q (F0 m tgt ls rest)) (kf : i = 0 → W p l e R s m args below meth c H locs cells slots Q (F0 m (pc + 3) ls rest)) : W p l e R s m args below meth c H locs cells slots Q (F0 m pc ls (.int (nI i) :: rest)) :=
  lv_if_ne hx hb hdg ht (fun h => kt (Nat.pos_of_ne_zero (fun q => h (by rw [q, nI_0])))) (fun h => kf (Nat.eq_zero_of_not_pos (fun q => nI_ne0 q hi h)))
theorem eg_if_lt (hx : p.tables.exec = Jvm.exec) (hb : c.code = cc) {i : Nat} {off : Int} (hdg : decode cc pc = .ok (.ifCond .lt off, 3)) {tgt : Nat} (ht : (pc : Int) + off = (tgt : Int)) (hi : i < 2 ^ 31) (kf : W p l e R s m args below meth c H locs cells slots Q (F0 m (pc + 3) ls rest)) : W p l e R s m args below meth c H locs cells slots Q (F0 m pc ls (.int (nI i) :: rest)) :=
  lv_if_lt hx hb hdg ht (fun h => absurd h (nI_pos hi)) (fun _ => kf)
theorem eg_iadd (hx : p.tables.exec = Jvm.exec) (hb : c.code = cc) {i j : Nat} (hdg : decode cc pc = .ok (.iadd, 1)) (kk : W p l e R s m args below meth c H locs cells slots Q (F0 m (pc + 1) ls (.int (nI (i + j)) :: rest))) : W p l e R s m args below meth c H locs cells slots Q (F0 m pc ls (.int (nI j) :: .int (nI i) :: rest)) :=
  lv_iadd hx hb hdg (by rw [nI_add]; exact kk)
theorem eg_isub (hx : p.tables.exec = Jvm.exec) (hb : c.code = cc) {i j : Nat} (hdg : decode cc pc = .ok (.isub, 1)) (h : j ≤ i) (kk : W p l e R s m args below meth c H locs cells slots Q (F0 m (pc + 1) ls (.int (nI (i - j)) :: rest))) : W p l e R s m args below meth c H locs cells slots Q (F0 m pc ls (.int (nI j) :: .int (nI i) :: rest)) :=
  lv_isub hx hb hdg (by rw [pk_sub h]; exact kk)
/-- a call of a reader, by its object -/
theorem eg_callV {y : MethodName} {bytes : ByteArray} {maxL nL n index : Nat} {ret : Option FieldType} {ws Ts : List Cond} {rm : Room} {own C : String} {b : Addr} {As : List Value} {v : Option Value}
    (hx : p.tables.exec = Jvm.exec) (hb : c.code = cc) (hml : c.maxLocals = nL) (hown : s.vm.findClass own = some m.cls) (hts : ∀ w ∈ Ts, w.before args s = true) (hK : va_K D vwCl tys s) (hP : va_P D vwCl w H)
    (hM : eg_MR D tys l y ws rm (.ref b :: As) w v) (cw : CallW R s args own C index y bytes maxL ret ws rm 0 0 n) (hrc : ∃ cell : Cell, H[b]? = some cell ∧ cell.vm.isStatics = false ∧ s.vm.findClass C = some cell.cls)
    (hn : As.length = n) (hsize : ls.size = nL) (hst : st0 = As.reverse ++ .ref b :: rest) (hroom : (rest.map fun v => v.category).sum ≤ 8) (hdg : decode cc pc = .ok (.invokevirtual index, 3)) (hf : cells ≤ R.cells ∧ slots ≤ R.slots)
    (kk : W p l e R s m args below meth c H locs cells slots Q (F0 m (pc + 3) ls (v.toList ++ rest))) : W p l e R s m args below meth c H locs cells slots Q (F0 m pc ls st0) := by
  have hr := W.runV (g := F0 m pc ls st0) (H := H) (locs := locs) (cells := cells) (slots := slots) (e := e) (below := below) (meth := meth) (rest := rest) ⟨hx, hb, hml, hown, hts⟩ hM cw ⟨fun a U g mk q => by obtain ⟨q0, qP, qK⟩ := q; exact ⟨q0, qP, va_K.moved (u := U) (U := U.calling g mk a) (Vm.Alike.refl U.vm) qK⟩, hrc, fun U hU hW => ⟨rfl, by rw [hU]; exact hP, va_K.moved hW.alike hK⟩⟩ rfl hn hsize hst (lv_room hroom) hdg ⟨hf.1, hf.2⟩
  intro T hT X
  obtain ⟨v', st₀, t, T', L, h0, X', hL, e1, ⟨hv, hh⟩, st⟩ := hr T hT X
  cases hv
  obtain ⟨t2, a1, b1⟩ := kk T' (by rw [e1, hh, h0]) (Stand.forget X' (fun q h => (hL q h).elim))
  exact ⟨t2, st t2 a1, b1⟩
/-- a static call of a reader that needs no world -/
theorem eg_callS {y : MethodName} {bytes : ByteArray} {maxL nL n index : Nat} {ret : Option FieldType} {ws Ts : List Cond} {rm : Room} {own : String} {As : List Value} {v : Option Value}
    (hx : p.tables.exec = Jvm.exec) (hb : c.code = cc) (hml : c.maxLocals = nL) (hown : s.vm.findClass own = some m.cls) (hts : ∀ w ∈ Ts, w.before args s = true) (hK : va_K D vwCl tys s)
    (hM : eg_MR D tys l y ws rm As [] v) (cw : CallB R s args own index y bytes maxL ret ws rm 0 0 n ∧ (Cond.static y).before args s = true)
    (hn : As.length = n) (hsize : ls.size = nL) (hst : st0 = As.reverse ++ rest) (hroom : (rest.map fun v => v.category).sum ≤ 8) (hdg : decode cc pc = .ok (.invokestatic index, 3)) (hf : cells ≤ R.cells ∧ slots ≤ R.slots)
    (kk : W p l e R s m args below meth c H locs cells slots Q (F0 m (pc + 3) ls (v.toList ++ rest))) : W p l e R s m args below meth c H locs cells slots Q (F0 m pc ls st0) := by
  have hr := W.runS (g := F0 m pc ls st0) (H := H) (locs := locs) (cells := cells) (slots := slots) (e := e) (below := below) (meth := meth) (rest := rest) ⟨hx, hb, hml, hown, hts⟩ hM cw ⟨fun a U g mk q => by obtain ⟨q0, qP, qK⟩ := q; exact ⟨q0, qP, va_K.moved (u := U) (U := U.calling g mk a) (Vm.Alike.refl U.vm) qK⟩, fun U hU hW => ⟨rfl, fun k q h => by simp at h, va_K.moved hW.alike hK⟩⟩ rfl hn hsize hst (lv_room hroom) hdg ⟨hf.1, hf.2⟩
  intro T hT X
  obtain ⟨v', st₀, t, T', L, h0, X', hL, e1, ⟨hv, hh⟩, st⟩ := hr T hT X
  cases hv
  obtain ⟨t2, a1, b1⟩ := kk T' (by rw [e1, hh, h0]) (Stand.forget X' (fun q h => (hL q h).elim))
  exact ⟨t2, st t2 a1, b1⟩
end EGR
section EGJ
/-- behind a call on some of the cells: the others, and the callee's -/
theorem eg_join {D : va_G} {A : Nat → Prop} {w wc wr w1 : va_W} {H H1 : Heap} (hP : va_P D vwCl w H) (hD : va_D A w) (isC isR : List Nat) (hC : isC.map (fun i => w[i]?) = wc.map some) (hR : isR.map (fun i => w[i]?) = wr.map some) (hn : va_nd (isR ++ isC) = true)
    (hk : ∀ q : Nat, q < H.size → ¬ eg_A wc q → H1[q]? = H[q]?) (hw1 : w1.map Prod.fst = wc.map Prod.fst) (hP1 : va_P D vwCl w1 H1) : va_P D vwCl (wr ++ w1) H1 ∧ va_D A (wr ++ w1) := by
  have hS : (isR ++ isC).map (fun i => w[i]?) = (wr ++ wc).map some := by rw [List.map_append, List.map_append, hR, hC]
  have hD' := hD.sub _ hn hS
  refine ⟨va_P.app (fun k q hq => ?_) hP1, eg_D_same hD' (by rw [List.map_append, List.map_append, hw1])⟩
  have h1 : (isR.map (fun i => w[i]?))[k]? = some (some q) := by rw [hR, List.getElem?_map, hq]; rfl
  rw [List.getElem?_map] at h1
  cases hi : isR[k]? with
  | none => rw [hi] at h1; cases h1
  | some i =>
    rw [hi] at h1
    have h2 : w[i]? = some q := Option.some.inj h1
    refine (hP i q h2).kept (hk q.1 (hP i q h2).lt (fun h => ?_))
    obtain ⟨e9, he, h3⟩ := List.mem_map.mp h
    obtain ⟨j, hj⟩ := List.getElem?_of_mem he
    have hkl : k < wr.length := (List.getElem?_eq_some_iff.mp hq).1
    have g1 : (wr ++ wc)[k]? = some q := by rw [List.getElem?_append_left hkl]; exact hq
    have g2 : (wr ++ wc)[wr.length + j]? = some e9 := by rw [List.getElem?_append_right (by omega), Nat.add_sub_cancel_left]; exact hj
    have := hD'.1 k (wr.length + j) q e9 g1 g2 h3.symm
    omega
theorem eg_cut {D : va_G} {w wc : va_W} {H : Heap} (hP : va_P D vwCl w H) (isC : List Nat) (hC : isC.map (fun i => w[i]?) = wc.map some) : va_P D vwCl wc H := by
  intro k q hq
  have h1 : (isC.map (fun i => w[i]?))[k]? = some (some q) := by rw [hC, List.getElem?_map, hq]; rfl
  rw [List.getElem?_map] at h1
  cases hi : isC[k]? with
  | none => rw [hi] at h1; cases h1
  | some i =>
    rw [hi] at h1
    exact hP i q (Option.some.inj h1)
theorem eg_nd_r : ∀ (a b : List Nat), va_nd (a ++ b) = true → va_nd b = true
  | [], _, h => h
  | x :: a, b, h => eg_nd_r a b (by
      have h' : va_nd (x :: (a ++ b)) = true := h
      simp only [va_nd, Bool.and_eq_true] at h'
      exact h'.2)
end EGJ
section EGTH
variable {p : Program} {l : Launch} {e : Env} {R : Room} {s : State} {m : MethodId} {args : Array Value} {below : List Frame} {meth : Method} {c : Code} {H : Heap} {locs : List Loc} {cells slots : Nat} {Q : State → Prop}
variable {mc ms : Nat} {free : Addr → Prop} {A0 A1 : Nat → Prop} {H0 : Heap} {a : Array Value} {ls : Array Slot} {st0 rest : List Value}
variable {Qc : Array Value → State → Outcome → State → Prop} {XC : String → State → State → Prop}
/-- 'throw new E("text")' (kit/laws/EXCEPTIONS.to-paste's row, with one word more: a new cell stands behind it) -/
theorem eg_throwS {cc : ByteArray} {pc : Nat} (hexec : p.tables.exec = Jvm.exec) (hb : c.code = cc) (hl : l.stackTraces = false) {own cls text : String} {names : List String} {ik is ic mc ms sa : Nat} {A : Nat → Prop}
    (hown : s.vm.findClass own = some m.cls) (hcls : Bundle.fit cls = true) (hnames : ∀ n ∈ names, Bundle.fit n = true)
    (hk : (Cond.classLink own ik cls).before args s = true) (hini : (Cond.initialized cls).before args s = true) (hstr : vk_R own is text sa s) (hat : ∀ w ∈ vx_atS own ic cls names, w.before args s = true)
    (hgood : ∀ w ∈ Cond.classLink own ik cls :: Cond.initialized cls :: vx_atS own ic cls names, vx_ot w = true)
    (hU : vx_Zq Bundle.tN "UNASSIGNED_STACK" Bundle.steD A s s.heap) (hN : vx_Zq Bundle.tN "SUPPRESSED_SENTINEL" Bundle.listD A s s.heap) (hS : va_S A s.heap H locs) (hsize : ls.size = c.maxLocals)
    (d0 : decode cc pc = .ok (.new ik, 3)) (d3 : decode cc (pc + 3) = .ok (.dup, 1)) (d4 : decode cc (pc + 4) = .ok (.ldc is, 2)) (d6 : decode cc (pc + 6) = .ok (.invokespecial ic, 3)) (d9 : decode cc (pc + 9) = .ok (.athrow, 1))
    (hout : ∀ x ∈ c.exceptionTable.toList, covers x (pc + 9) = false)
    (hRframes : names.length + 3 < R.frames) (hRlocals : (rest.map fun v => v.category).sum + (13 * (names.length + 1) + 43) ≤ R.locals) (hRcells : cells + 1 ≤ R.cells) (hRslots : slots + 6 ≤ R.slots) (hlocks : meth.locks = false)
    (hx : ∀ t : State, s.vm.Alike t.vm → H.size + 1 ≤ t.heap.size → (∀ q : Nat, q < H.size → t.heap[q]? = H[q]?) → XC cls s t)
    (hf : ∀ z ∈ locs, free z.base) (hc : cells + 1 ≤ mc) (hs : slots + 6 ≤ ms) :
    W p l e R s m args below meth c H locs cells slots (vx_MQ below Qc XC args s mc ms free) (F0 m pc ls rest) := by
  intro T hT X
  have htr : e.platform.stackTraces = false := (show e.platform.stackTraces = l.stackTraces by rw [X.admits.platform]).trans hl
  have Y := vx_rebase X (R' := { frames := R.frames, locals := R.locals, cells := 1, slots := 6 }) (Nat.le_refl _) (Nat.le_refl _) hRcells hRslots
  obtain ⟨s', hA⟩ : ∃ z, z = (T.setVm s.vm).setFrames (.invoking m args :: below) := ⟨_, rfl⟩
  rw [← hA] at Y
  have hvm : s'.vm = s.vm := by rw [hA]; rfl
  have hhp : s'.heap = H := by rw [hA]; exact hT
  have hW0 : s.WarmedH s'.vm := by rw [hvm]; exact State.WarmedH.refl s
  have hat' : ∀ w ∈ vx_atS own ic cls names, w.before args s' = true := fun w hw => vx_ot_at hW0 hvm.symm (hgood w (List.mem_cons_of_mem _ (List.mem_cons_of_mem _ hw))) (hat w hw)
  have hk' : (Cond.classLink own ik cls).before args s' = true := vx_ot_at hW0 hvm.symm (hgood _ List.mem_cons_self) hk
  have hini' : (Cond.initialized cls).before args s' = true := vx_ot_at hW0 hvm.symm (hgood _ (List.mem_cons_of_mem _ List.mem_cons_self)) hini
  have hU' : vx_Zq Bundle.tN "UNASSIGNED_STACK" Bundle.steD A s' s'.heap := by rw [hhp]; exact vx_Zq.moved hW0.alike (hU.kept hS.2.1)
  have hN' : vx_Zq Bundle.tN "SUPPRESSED_SENTINEL" Bundle.listD A s' s'.heap := by rw [hhp]; exact vx_Zq.moved hW0.alike (hN.kept hS.2.1)
  have h : ∀ w ∈ Bundle.ownAtoms own ic cls names, w.before args s' = true := vx_own hat' (vx_isRefq hU'.1) (vx_isRefq hN'.1) hU'.2.word hN'.2.word
  have hown' : s'.vm.findClass own = some m.cls := by rw [hvm]; exact hown
  have hins : (Cond.instantiable cls 6).before args s' = true := h _ (by simp [Bundle.ownAtoms])
  obtain ⟨vm₁, cX, kX, hfX, hkX, -, -, X₁, st1⟩ := Y.newCold hexec (own := own) (C := cls) (index := ik) (n := 6) hown' hk' hins hini'
    (g := F0 m pc ls rest) rfl (by rw [hb]; exact d0) (Nat.le_refl _) (Nat.le_refl _)
  generalize hT1 : (T.setVm vm₁).pushCell { cls := cX, slots := kX.instanceTypes.map defaultValue, vm := .none } = T1 at X₁ st1
  have hcat : (Value.ref T.heap.size).category = 1 := rfl
  have hcellA : T1.heap[T.heap.size]? = some (freshCell cX kX) := by rw [← hT1]; exact State.heap_pushCell_size _ _
  have d3' : decode c.code (pc + 3) = .ok (.dup, 1) := by rw [hb]; exact d3
  have d4' : decode c.code (pc + 4) = .ok (.ldc is, 2) := by rw [hb]; exact d4
  have hstr' : vk_R own is text sa s' := vk_R.warm hW0 hstr
  obtain ⟨U, hsteps, hrun, hend, hW, hsame, ce, hce, hO⟩ := X₁.ctorThrowS hexec htr (own := own) (cls := cls) (names := names) (ic := ic) hown' hcls hnames h (fun x hx => nomatch hx) hfX hkX hcellA (by rw [hhp, hT]; exact Nat.le_refl _) (msg := .ref sa) rfl
    (g := { method := m, pc := pc + 6, locals := ls, stack := .ref sa :: .ref T.heap.size :: .ref T.heap.size :: rest, locked := none }) rfl hsize rfl rfl (rest := rest) rfl
    (by rw [hb]; exact d6) (by rw [hb]; exact d9) hout hRframes (by simp only [List.map_cons, List.sum_cons, hcat]; omega) hlocks
  obtain ⟨f1, f2⟩ := vx_frame hsame
  rw [hhp] at f1 f2
  have f3 : H.size + 1 ≤ U.heap.size := by
    have h9 := (Array.getElem?_eq_some_iff.mp hce).1
    rw [hT] at h9
    exact h9
  have hWs : s.WarmedH U.vm := State.WarmedH.trans hW0 hW
  have hcl : s.vm.findClass cls = some ce.cls := by
    have h9 := hO.cls
    rw [hvm] at h9
    exact h9
  have hall : s.sameButNew ({ U with vm := s.vm } : State) locs mc ms := by
    subst hA
    obtain ⟨e1, e2⟩ := hsame
    rw [State.setFrames_setFrames] at e1
    have h2 : (T.setVm s.vm).sameButNew ({ U with vm := s.vm } : State) [] (0 + 1) (0 + 6) := ⟨e1, e2⟩
    have h3 := X.same.trans h2
    rw [List.append_nil] at h3
    exact h3.mono hc hs
  refine ⟨U, ?_, .threw T.heap.size, hrun, hend, Or.inr ⟨T.heap.size, rfl, cls, ce, locs, hx U hWs.alike f3 (fun q hq => f2 q hq (fun z hz => nomatch hz)), hce, hO.vm, hcl, hWs, hall, hf⟩⟩
  refine st1 _ ?_
  show Steps p.tables e below (T1.setTop { method := m, pc := pc + 3, locals := ls, stack := .ref T.heap.size :: rest, locked := none }) _
  jvm_step X₁.here [X₁.here.top, hexec, d3', Value.category]
  exact X₁.ldcString hexec (own := own) (text := text) (index := is) (a := sa) hown' hstr'.1 hstr'.2
    (g := { method := m, pc := pc + 4, locals := ls, stack := .ref T.heap.size :: .ref T.heap.size :: rest, locked := none }) rfl d4' _ hsteps
end EGTH
section EGC
variable {p : Program} {l : Launch} {e : Env} {R : Room} {s : State} {m : MethodId} {args : Array Value} {below : List Frame} {meth : Method} {c : Code} {H : Heap} {locs : List Loc} {cells slots : Nat} {Q : State → Prop}
variable {cc : ByteArray} {pc : Nat} {ls : Array Slot} {rest st0 : List Value} {D : va_G} {tys : List (ClassId × FieldType)} {w w0 wc wr : va_W} {A : Nat → Prop} {H0 : Heap}
variable {y : MethodName} {bytes : ByteArray} {maxL nL n index mc ms : Nat} {ret : Option FieldType} {ws Ts : List Cond} {rm : Room} {own C : String} {b : Addr} {As : List Value} {Rq : Option Value → va_W → Prop} {Rx : va_W → Prop} {E : String}
/-- a call of a writer on the whole world, by its object -/
theorem eg_callWV (hx : p.tables.exec = Jvm.exec) (hb : c.code = cc) (hml : c.maxLocals = nL) (hown : s.vm.findClass own = some m.cls) (hts : ∀ w ∈ Ts, w.before args s = true) (hK : va_K D vwCl tys s) (hP : va_P D vwCl w H) (hD : va_D A w0) (hw : w.map Prod.fst = w0.map Prod.fst) (hS : va_S A H0 H locs)
    (hM : eg_MW D tys l y ws rm mc ms (.ref b :: As) w Rq) (cw : CallW R s args own C index y bytes maxL ret ws rm mc ms n) (hrc : ∃ cell : Cell, H[b]? = some cell ∧ cell.vm.isStatics = false ∧ s.vm.findClass C = some cell.cls)
    (hn : As.length = n) (hsize : ls.size = nL) (hst : st0 = As.reverse ++ .ref b :: rest) (hroom : (rest.map fun v => v.category).sum ≤ 8) (hdg : decode cc pc = .ok (.invokevirtual index, 3)) (hf : cells + mc ≤ R.cells ∧ slots + ms ≤ R.slots)
    (kk : ∀ (v : Option Value) (w1 : va_W) (H1 : Heap) (locs1 : List Loc), Rq v w1 → w1.map Prod.fst = w0.map Prod.fst → va_P D vwCl w1 H1 → va_S A H0 H1 locs1 → W p l e R s m args below meth c H1 locs1 (cells + mc) (slots + ms) Q (F0 m (pc + 3) ls (v.toList ++ rest))) : W p l e R s m args below meth c H locs cells slots Q (F0 m pc ls st0) := by
  have hD2 := eg_D_same hD hw
  have hr := W.runV (g := F0 m pc ls st0) (H := H) (locs := locs) (cells := cells) (slots := slots) (e := e) (below := below) (meth := meth) (rest := rest) ⟨hx, hb, hml, hown, hts⟩ hM cw ⟨fun a U g mk q => by obtain ⟨q0, qP, qK, qD⟩ := q; exact ⟨q0, qP, va_K.moved (u := U) (U := U.calling g mk a) (Vm.Alike.refl U.vm) qK, qD⟩, hrc, fun U hU hW => ⟨rfl, by rw [hU]; exact hP, va_K.moved hW.alike hK, hD2.weaken (fun _ _ _ _ => trivial)⟩⟩ rfl hn hsize hst (lv_room hroom) hdg hf
  intro T hT X
  obtain ⟨v', st₀, t, T', L, h0, X', hL, e1, ⟨v, w1, hv, hR, hw1, hP1, hF⟩, st⟩ := hr T hT X
  cases hv
  obtain ⟨-, -, k3⟩ := vx_keep h0 e1 hS (fun q _ h => eg_D_in hD2 h) (fun q h => eg_D_in hD2 h) hL hF
  obtain ⟨t2, a1, b1⟩ := kk v' w1 T'.heap (locs ++ L) hR (hw1.trans hw) (by rw [e1]; exact hP1) k3 T' rfl X'
  exact ⟨t2, st t2 a1, b1⟩
/-- a call of a writer on some of the cells, by its object -/
theorem eg_callWVc (hx : p.tables.exec = Jvm.exec) (hb : c.code = cc) (hml : c.maxLocals = nL) (hown : s.vm.findClass own = some m.cls) (hts : ∀ w ∈ Ts, w.before args s = true) (hK : va_K D vwCl tys s) (hP : va_P D vwCl w H) (hD : va_D A w) (hS : va_S A H0 H locs) (isC isR : List Nat) (hC : isC.map (fun i => w[i]?) = wc.map some) (hR : isR.map (fun i => w[i]?) = wr.map some) (hnd : va_nd (isR ++ isC) = true)
    (hM : eg_MW D tys l y ws rm mc ms (.ref b :: As) wc Rq) (cw : CallW R s args own C index y bytes maxL ret ws rm mc ms n) (hrc : ∃ cell : Cell, H[b]? = some cell ∧ cell.vm.isStatics = false ∧ s.vm.findClass C = some cell.cls)
    (hn : As.length = n) (hsize : ls.size = nL) (hst : st0 = As.reverse ++ .ref b :: rest) (hroom : (rest.map fun v => v.category).sum ≤ 8) (hdg : decode cc pc = .ok (.invokevirtual index, 3)) (hf : cells + mc ≤ R.cells ∧ slots + ms ≤ R.slots)
    (kk : ∀ (v : Option Value) (w1 : va_W) (H1 : Heap) (locs1 : List Loc), Rq v w1 → w1.map Prod.fst = wc.map Prod.fst → va_P D vwCl (wr ++ w1) H1 → va_D A (wr ++ w1) → va_S A H0 H1 locs1 → W p l e R s m args below meth c H1 locs1 (cells + mc) (slots + ms) Q (F0 m (pc + 3) ls (v.toList ++ rest))) : W p l e R s m args below meth c H locs cells slots Q (F0 m pc ls st0) := by
  have hD2 : va_D A wc := hD.sub isC (eg_nd_r _ _ hnd) hC
  have hr := W.runV (g := F0 m pc ls st0) (H := H) (locs := locs) (cells := cells) (slots := slots) (e := e) (below := below) (meth := meth) (rest := rest) ⟨hx, hb, hml, hown, hts⟩ hM cw ⟨fun a U g mk q => by obtain ⟨q0, qP, qK, qD⟩ := q; exact ⟨q0, qP, va_K.moved (u := U) (U := U.calling g mk a) (Vm.Alike.refl U.vm) qK, qD⟩, hrc, fun U hU hW => ⟨rfl, by rw [hU]; exact eg_cut hP isC hC, va_K.moved hW.alike hK, hD2.weaken (fun _ _ _ _ => trivial)⟩⟩ rfl hn hsize hst (lv_room hroom) hdg hf
  intro T hT X
  obtain ⟨v', st₀, t, T', L, h0, X', hL, e1, ⟨v, w1, hv, hR2, hw1, hP1, hF⟩, st⟩ := hr T hT X
  cases hv
  obtain ⟨-, k2, k3⟩ := vx_keep h0 e1 hS (fun q _ h => eg_D_in hD2 h) (fun q h => eg_D_in hD2 h) hL hF
  obtain ⟨j1, j2⟩ := eg_join hP hD isC isR hC hR hnd k2 hw1 (by rw [e1]; exact hP1)
  obtain ⟨t2, a1, b1⟩ := kk v' w1 T'.heap (locs ++ L) hR2 hw1 j1 j2 k3 T' rfl X'
  exact ⟨t2, st t2 a1, b1⟩
/-- a call that throws, by its object -/
theorem eg_callX (hx : p.tables.exec = Jvm.exec) (hb : c.code = cc) (hml : c.maxLocals = nL) (hown : s.vm.findClass own = some m.cls) (hts : ∀ w ∈ Ts, w.before args s = true) (hK : va_K D vwCl tys s) (hP : va_P D vwCl w H) (hD : va_D A w) (hS : va_S A s.heap H locs) (hT9 : eg_T A s s.heap) (isC isR : List Nat) (hC : isC.map (fun i => w[i]?) = wc.map some) (hR : isR.map (fun i => w[i]?) = wr.map some) (hnd : va_nd (isR ++ isC) = true)
    (hM : eg_MX D tys l y ws rm (.ref b :: As) wc E Rx) (cw : CallW R s args own C index y bytes maxL ret ws rm 1 6 n) (hrc : ∃ cell : Cell, H[b]? = some cell ∧ cell.vm.isStatics = false ∧ s.vm.findClass C = some cell.cls)
    (hn : As.length = n) (hsize : ls.size = nL) (hst : st0 = As.reverse ++ .ref b :: rest) (hroom : (rest.map fun v => v.category).sum ≤ 8) (hdg : decode cc pc = .ok (.invokevirtual index, 3)) (hf : cells + 1 ≤ R.cells ∧ slots + 6 ≤ R.slots)
    (kx : ∀ (w1 : va_W) (H1 : Heap) (locs1 : List Loc) (q9 : Addr) (ce : Cell), H.size + 1 ≤ H1.size → Rx w1 → w1.map Prod.fst = wc.map Prod.fst → va_P D vwCl (wr ++ w1) H1 → va_D A (wr ++ w1) → va_S A s.heap H1 locs1 → H1[q9]? = some ce → ce.vm = .none → s.vm.findClass E = some ce.cls → vx_W p l e R s m args below meth c H1 locs1 (cells + 1) (slots + 6) Q (F0 m pc ls rest) q9) : W p l e R s m args below meth c H locs cells slots Q (F0 m pc ls st0) := by
  have hD2 : va_D A wc := hD.sub isC (eg_nd_r _ _ hnd) hC
  have hr := vx_runV (g := F0 m pc ls st0) (H := H) (locs := locs) (cells := cells) (slots := slots) (e := e) (below := below) (meth := meth) (rest := rest) ⟨hx, hb, hml, hown, hts⟩ hM cw ⟨fun a U g mk q => by obtain ⟨q0, qP, qK, qD, qT⟩ := q; exact ⟨q0, qP, va_K.moved (u := U) (U := U.calling g mk a) (Vm.Alike.refl U.vm) qK, qD, qT.calling⟩, hrc, fun U hU hW => ⟨rfl, by rw [hU]; exact eg_cut hP isC hC, va_K.moved hW.alike hK, hD2.weaken (fun _ _ _ _ => trivial), hT9.at hS (fun q h => eg_D_in hD2 h) hU hW⟩⟩ rfl hn hsize hst (lv_room hroom) hdg hf
  intro T hT X
  rcases hr T hT X with ⟨v', st₀, t, T', L, h0, X', hL, e1, e2, hq, st⟩ | ⟨q9, st₀, t, T', L, E', ce, h0, X', hL, e1, e2, ⟨rfl, hg9, w1, hRx, hw1, hP1, hF⟩, hce, hcv, hcl, st⟩
  · exact hq.elim
  · obtain ⟨-, k2, k3⟩ := vx_keep h0 e1 hS (fun q _ h => eg_D_in hD2 h) (fun q h => eg_D_in hD2 h) hL hF
    obtain ⟨j1, j2⟩ := eg_join hP hD isC isR hC hR hnd k2 hw1 (by rw [e1]; exact hP1)
    obtain ⟨t2, a1, b1⟩ := kx w1 T'.heap (locs ++ L) q9 ce (by rw [e1, ← h0]; exact hg9) hRx hw1 j1 j2 k3 (by rw [e1]; exact hce) hcv hcl T' rfl X'
    exact ⟨t2, st.trans a1, b1⟩
/-- .. and the throw goes on to the caller -/
theorem eg_callXout {Rx' : va_W → Prop} (hx : p.tables.exec = Jvm.exec) (hb : c.code = cc) (hml : c.maxLocals = nL) (hown : s.vm.findClass own = some m.cls) (hts : ∀ w ∈ Ts, w.before args s = true) (hK : va_K D vwCl tys s) (hP : va_P D vwCl w H) (hD : va_D (eg_A w0) w0) (hw : w.map Prod.fst = w0.map Prod.fst) (hS : va_S (eg_A w0) s.heap H locs) (hT9 : eg_T (eg_A w0) s s.heap) (is : List Nat) (hC : is.map (fun i => w[i]?) = w.map some) (hnd : va_nd is = true)
    (hM : eg_MX D tys l y ws rm (.ref b :: As) w E Rx) (cw : CallW R s args own C index y bytes maxL ret ws rm 1 6 n) (hrc : ∃ cell : Cell, H[b]? = some cell ∧ cell.vm.isStatics = false ∧ s.vm.findClass C = some cell.cls)
    (hn : As.length = n) (hsize : ls.size = nL) (hst : st0 = As.reverse ++ .ref b :: rest) (hroom : (rest.map fun v => v.category).sum ≤ 8) (hdg : decode cc pc = .ok (.invokevirtual index, 3)) (hf : 0 + 1 ≤ R.cells ∧ 0 + 6 ≤ R.slots)
    (hout : ∀ x ∈ c.exceptionTable.toList, False) (hlocks : meth.locks = false) (hRx : ∀ w1, Rx w1 → Rx' w1) : W p l e R s m args below meth c H locs 0 0 (vx_MQ below (fun _ _ _ _ => False) (eg_XC D w0 E Rx') args s 1 6 (eg_A w0)) (F0 m pc ls st0) :=
  eg_callX (wr := []) hx hb hml hown hts hK hP (eg_D_same hD hw) hS hT9 is [] hC rfl hnd hM cw hrc hn hsize hst hroom hdg hf (fun w1 H1 locs1 q9 ce hg9 h1 h2 h3 _ h5 h6 h7 h8 =>
    vx_out (fun x hx => (hout x hx).elim) hlocks h6 h7 h8 (fun t ht hA => ⟨rfl, by rw [ht]; exact Nat.le_trans (Nat.add_le_add_right hS.1 1) hg9, w1, hRx w1 h1, h2.trans hw, by rw [ht]; exact h3, h5.F ht⟩) h5.2.2 (Nat.le_refl _) (Nat.le_refl _))
/-- 'throw new E("text")' in a thrower's body -/
theorem eg_throw {cls text : String} {ik is ic : Nat} {Rx' : va_W → Prop} (hx : p.tables.exec = Jvm.exec) (hb : c.code = cc) (hl : l.stackTraces = false) (hown : s.vm.findClass own = some m.cls) (hcls : Bundle.fit cls = true)
    (hk : (Cond.classLink own ik cls).before args s = true) (hini : (Cond.initialized cls).before args s = true) (hstr : ∃ sa, vk_R own is text sa s) (hat : ∀ w ∈ vx_atS own ic cls ["java/lang/RuntimeException", "java/lang/Exception"], w.before args s = true)
    (hgood : ∀ w ∈ Cond.classLink own ik cls :: Cond.initialized cls :: vx_atS own ic cls ["java/lang/RuntimeException", "java/lang/Exception"], vx_ot w = true)
    (hP : va_P D vwCl w H) (hw : w.map Prod.fst = w0.map Prod.fst) (hS : va_S (eg_A w0) s.heap H locs) (hT9 : eg_T (eg_A w0) s s.heap) (hsize : ls.size = c.maxLocals)
    (d0 : decode cc pc = .ok (.new ik, 3)) (d3 : decode cc (pc + 3) = .ok (.dup, 1)) (d4 : decode cc (pc + 4) = .ok (.ldc is, 2)) (d6 : decode cc (pc + 6) = .ok (.invokespecial ic, 3)) (d9 : decode cc (pc + 9) = .ok (.athrow, 1))
    (hout : ∀ x ∈ c.exceptionTable.toList, False) (hRframes : 5 < R.frames) (hRlocals : 82 ≤ R.locals) (hRcells : 0 + 1 ≤ R.cells) (hRslots : 0 + 6 ≤ R.slots) (hlocks : meth.locks = false) (hRx : Rx' w) :
    W p l e R s m args below meth c H locs 0 0 (vx_MQ below (fun _ _ _ _ => False) (eg_XC D w0 cls Rx') args s 1 6 (eg_A w0)) (F0 m pc ls []) := by
  obtain ⟨sa, hstr⟩ := hstr
  refine eg_throwS hx hb hl hown hcls (names := ["java/lang/RuntimeException", "java/lang/Exception"]) (by decide +kernel) hk hini hstr hat hgood hT9.1.1.1 hT9.1.1.2 hS hsize d0 d3 d4 d6 d9 (fun x hx => (hout x hx).elim) hRframes hRlocals hRcells hRslots hlocks (fun t hA hz hq => ⟨rfl, Nat.le_trans (Nat.add_le_add_right hS.1 1) hz, w, hRx, hw, hP.kept (fun k q hk => hq q.1 (hP k q hk).lt), Nat.le_trans hS.1 (Nat.le_of_succ_le hz), fun q h1 h2 => (hq q (Nat.lt_of_lt_of_le h1 hS.1)).trans (hS.2.1 q h1 h2)⟩) hS.2.2 (Nat.le_refl _) (Nat.le_refl _)
end EGC
