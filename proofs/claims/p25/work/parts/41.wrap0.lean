-- the law's calls of the class that make nothing (by specW.py)
abbrev rmT (t : Nat) : Room := { frames := 9, cells := t, slots := 6 * t, locals := 150 }
abbrev eg_MLm (D : va_G) (tys : List (ClassId × FieldType)) (l : Launch) (y : MethodName) (ws : List Cond) (rm : Room) (av : List Value) (w0 : va_W) (Rq : Option Value → va_W → Prop) (mc ms : Nat) : Prop :=
  Met l y ws rm (va_Pc av (fun U => va_P D vwCl w0 U.heap ∧ va_K D vwCl tys U ∧ va_D (fun _ => True) w0 ∧ eg_T (eg_A w0) U U.heap)) (eg_Wq D w0 Rq) mc ms (eg_A w0)
section EGM
variable {l : Launch} {D : va_G} {tys : List (ClassId × FieldType)} {y : MethodName} {ws : List Cond} {rm : Room} {av : List Value} {w : va_W}
theorem eg_monoM {mc ms : Nat} {Rq Rq' : Option Value → va_W → Prop} (h : eg_MLm D tys l y ws rm av w Rq mc ms) (hR : ∀ v w1, Rq v w1 → Rq' v w1) : eg_MLm D tys l y ws rm av w Rq' mc ms :=
  Jvm.Free.MetFree.mono h (fun a s hp => hp) (fun _ _ _ _ _ h => h) (fun a s o s' hp hq => by
    obtain ⟨⟨v, w1, h1, h2, h3⟩, h4⟩ := hq
    exact ⟨⟨v, w1, h1, hR v w1 h2, h3⟩, h4⟩)
theorem eg_ofG {d mc ms : Nat} {Rq Rq' : Option Value → va_W → Prop} (h : Met l y ws rm (va_Pc av (fun U => va_P D vwCl w U.heap ∧ va_K D vwCl tys U ∧ va_D (fun _ => True) w ∧ eg_T (eg_A w) U U.heap)) (eg_Wg D w Rq d) mc ms (eg_A w)) (hR : ∀ v w1, Rq v w1 → Rq' v w1) : eg_MLm D tys l y ws rm av w Rq' mc ms :=
  Jvm.Free.MetFree.mono h (fun a s hp => hp) (fun _ _ _ _ _ h => h) (fun a s o s' hp hq => by
    obtain ⟨⟨⟨v, w1, h1, h2, h3⟩, -⟩, h4⟩ := hq
    exact ⟨⟨v, w1, h1, hR v w1 h2, h3⟩, h4⟩)
end EGM
section EGMC
variable {p : Program} {l : Launch} {e : Env} {R : Room} {s : State} {m : MethodId} {args : Array Value} {below : List Frame} {meth : Method} {c : Code} {H : Heap} {locs : List Loc} {cells slots : Nat} {Q : State → Prop}
variable {cc : ByteArray} {pc : Nat} {ls : Array Slot} {rest st0 : List Value} {D : va_G} {tys : List (ClassId × FieldType)} {w wc wr : va_W} {A : Nat → Prop}
variable {y : MethodName} {bytes : ByteArray} {maxL nL n index mc ms : Nat} {ret : Option FieldType} {hh : List (Nat × Nat × Nat × Nat)} {ws Ts : List Cond} {rm : Room} {own : String} {As : List Value} {Rq : Option Value → va_W → Prop}
theorem eg_callLm (hx : p.tables.exec = Jvm.exec) (hb : c.code = cc) (hml : c.maxLocals = nL) (hown : s.vm.findClass own = some m.cls) (hts : ∀ w ∈ Ts, w.before args s = true) (hK : va_K D vwCl tys s) (hP : va_P D vwCl w H) (hD : va_D A w) (hS : va_S A s.heap H locs) (hT9 : eg_T A s s.heap) (isC isR : List Nat) (hC : isC.map (fun i => w[i]?) = wc.map some) (hR : isR.map (fun i => w[i]?) = wr.map some) (hnd : va_nd (isR ++ isC) = true)
    (hM : eg_MLm D tys l y ws rm As wc Rq mc ms) (cw : vx_CSW R s args own index y bytes maxL ret hh ws rm mc ms n)
    (hn : As.length = n) (hsize : ls.size = nL) (hst : st0 = As.reverse ++ rest) (hroom : (rest.map fun v => v.category).sum ≤ 8) (hdg : decode cc pc = .ok (.invokestatic index, 3)) (hf : cells + mc ≤ R.cells ∧ slots + ms ≤ R.slots)
    (kk : ∀ (v : Option Value) (w1 : va_W) (H1 : Heap) (locs1 : List Loc), Rq v w1 → w1.map Prod.fst = wc.map Prod.fst → va_P D vwCl (wr ++ w1) H1 → va_D A (wr ++ w1) → va_S A s.heap H1 locs1 → W p l e R s m args below meth c H1 locs1 (cells + mc) (slots + ms) Q (F0 m (pc + 3) ls (v.toList ++ rest))) : W p l e R s m args below meth c H locs cells slots Q (F0 m pc ls st0) := by
  have hD2 : va_D A wc := hD.sub isC (eg_nd_r _ _ hnd) hC
  have hr := vx_runSW (g := F0 m pc ls st0) (H := H) (locs := locs) (cells := cells) (slots := slots) (e := e) (below := below) (meth := meth) (rest := rest) ⟨hx, hb, hml, hown, hts⟩ hM cw ⟨fun a U g mk q => by obtain ⟨q0, qP, qK, qD, qT⟩ := q; exact ⟨q0, qP, va_K.moved (u := U) (U := U.calling g mk a) (Vm.Alike.refl U.vm) qK, qD, qT.calling⟩, fun U hU hW => ⟨rfl, by rw [hU]; exact eg_cut hP isC hC, va_K.moved hW.alike hK, hD2.weaken (fun _ _ _ _ => trivial), hT9.at hS (fun q h => eg_D_in hD2 h) hU hW⟩⟩ rfl hn hsize hst (lv_room hroom) hdg hf
  intro T hT X
  obtain ⟨v', st₀, t, T', L, h0, X', hL, e1, e2, ⟨v, w1, hv, hR2, hw1, hP1, hF⟩, st⟩ := hr T hT X
  cases hv
  obtain ⟨-, k2, k3⟩ := vx_keep h0 e1 hS (fun q _ h => eg_D_in hD2 h) (fun q h => eg_D_in hD2 h) hL hF
  obtain ⟨j1, j2⟩ := eg_join hP hD isC isR hC hR hnd k2 hw1 (by rw [e1]; exact hP1)
  obtain ⟨t2, a1, b1⟩ := kk v' w1 T'.heap (locs ++ L) hR2 hw1 j1 j2 k3 T' rfl X'
  exact ⟨t2, st t2 a1, b1⟩
theorem eg_topL {x y9 : Int64} (h : x = y9) (kk : W p l e R s m args below meth c H locs cells slots Q (F0 m pc ls (.long y9 :: rest))) : W p l e R s m args below meth c H locs cells slots Q (F0 m pc ls (.long x :: rest)) := by
  subst h; exact kk
end EGMC
set_option maxHeartbeats 4000000 in
set_option maxRecDepth 100000 in
theorem wz_of_length (l : Launch) (D : va_G) (cI cJ : ClassId) (q : Nat → Nat) (n : Nat) (mk lt tg : Nat → Int32) (pa an la kn : Nat → Int64) (fb : Int32) (fh nb te wt bh : Nat → Int32) (x0 x1 : Int32) {rm : Room} (hrm : rm.cells = 0 ∧ rm.slots = 0 ∧ rm.frames + 1 ≤ 9 ∧ 8 + (2 + 11) + rm.locals ≤ 150) {Rq : Option Value → va_W → Prop} (hM : eg_MW D (tyL cI cJ) l yX0_length wsX0_length rm 0 0 [.ref (q 0), .int x0] (wX q cI cJ (nI n) mk lt tg pa an la kn fb fh nb te wt bh) Rq) (hRq : ∀ v w1, Rq v w1 → ∃ x : Int32, v = some (.int x)) : eg_MLm D (tyL cI cJ) l yL_of wsL_of (rmT 0) [.ref (q 0), .int (nI 0), .int x0, .int x1] (wX q cI cJ (nI n) mk lt tg pa an la kn fb fh nb te wt bh) (fun r w1 => ∃ x : Int32, r = some (.int x) ∧ Rq (some (.int x)) w1) 0 0 := by
  refine eg_ofWH (cc := cL_of) (maxL := 5) (ret := (some .int)) (hh := [(0, 85, 86, 14)]) (by decide) rfl ?_
  intro p e s m args below meth c s₁ B hml htb hv
  obtain ⟨rfl, hP, hK, hD0, hT⟩ := hv
  have hx := B.exec
  have hb := B.bytes
  have hr := B.returns
  have hts := atoms_spec (ws := wsL_of) B.pre
  have hown : s.vm.findClass RL = some m.cls := findClass_of_methodNamed B.named
  have hlocks := B.notSynchronized
  have hD := eg_D_of hD0
  have hS : va_S (eg_A (wX q cI cJ (nI n) mk lt tg pa an la kn fb fh nb te wt bh)) s.heap s.heap [] := va_S.rf
  have hl := lv_entry ([.ref (q 0), .int (nI 0), .int x0, .int x1]) (n := 5) (Nat.le_of_ble_eq_true rfl)
  rw [lg_entry_eq]
  generalize (lg_sl ([.ref (q 0), .int (nI 0), .int x0, .int x1]) ++ List.replicate (5 - (lg_sl ([.ref (q 0), .int (nI 0), .int x0, .int x1])).length) Slot.unset).toArray = ls at hl ⊢
  have hl : lv_has ls 5 [(0, .ref (q 0)), (1, .int (nI 0)), (2, .int x0), (3, .int x1)] := hl
  generalize h0H : s.heap = H at hP ⊢
  have hS : va_S (eg_A (wX q cI cJ (nI n) mk lt tg pa an la kn fb fh nb te wt bh)) s.heap H [] := by rw [← h0H]; exact hS
  generalize ([] : List Loc) = locs at hS ⊢
  refine lv_iload_n hx hb dL_of_0 rfl (lv_at hl 1 rfl) ?_
  refine lv_if_ne (tgt := 12) hx hb dL_of_1 (by decide) (fun h => absurd nI_0 h) (fun _ => ?_)
  refine lv_aload_n hx hb dL_of_4 rfl (lv_at hl 0 rfl) ?_
  refine lv_iload_n hx hb dL_of_5 rfl (lv_at hl 2 rfl) ?_
  refine eg_callWVc (wr := []) (As := [.int x0]) (rest := []) hx hb hml hown hts hK hP hD hS [0, 1, 2, 3, 4, 5, 6, 7, 8, 9, 10, 11, 12] [] rfl rfl (by decide) hM (cwV 1 hts gL_of_X0_length rfl hrm.1 hrm.2.1 (by decide +kernel) ⟨hrm.2.2.1, hrm.2.2.2⟩) (va_recv hK hP (ci := 0) (q0 := 0) rfl rfl) rfl hl.1 rfl (Nat.le_of_ble_eq_true rfl) dL_of_6 ⟨Nat.le_of_ble_eq_true rfl, Nat.le_of_ble_eq_true rfl⟩ (fun v9 w9 H locs hR9 hw9 hP hD hS => ?_)
  obtain ⟨x, rfl⟩ := hRq _ _ hR9
  refine lv_goto (tgt := 85) hx hb dL_of_9 (by decide) ?_
  exact W.iret hx hb hr (fun t9 ht9 _ => ⟨some (.int x), w9, rfl, ⟨x, rfl, hR9⟩, hw9, by rw [ht9]; exact hP, hS.F ht9⟩) hS.2.2 dL_of_85
set_option maxHeartbeats 4000000 in
set_option maxRecDepth 100000 in
theorem wz_of_concurrent (l : Launch) (D : va_G) (cI cJ : ClassId) (q : Nat → Nat) (n : Nat) (mk lt tg : Nat → Int32) (pa an la kn : Nat → Int64) (fb : Int32) (fh nb te wt bh : Nat → Int32) (x0 x1 : Int32) {rm : Room} (hrm : rm.cells = 0 ∧ rm.slots = 0 ∧ rm.frames + 1 ≤ 9 ∧ 8 + (6 + 11) + rm.locals ≤ 150) {Rq : Option Value → va_W → Prop} (hM : eg_MW D (tyL cI cJ) l yX0_concurrent wsX0_concurrent rm 0 0 [.ref (q 0), .int x0] (wX q cI cJ (nI n) mk lt tg pa an la kn fb fh nb te wt bh) Rq) (hRq : ∀ v w1, Rq v w1 → ∃ x : Int32, v = some (.int x)) : eg_MLm D (tyL cI cJ) l yL_of wsL_of (rmT 0) [.ref (q 0), .int (nI 1), .int x0, .int x1] (wX q cI cJ (nI n) mk lt tg pa an la kn fb fh nb te wt bh) (fun r w1 => ∃ x : Int32, r = some (.int x) ∧ Rq (some (.int x)) w1) 0 0 := by
  refine eg_ofWH (cc := cL_of) (maxL := 5) (ret := (some .int)) (hh := [(0, 85, 86, 14)]) (by decide) rfl ?_
  intro p e s m args below meth c s₁ B hml htb hv
  obtain ⟨rfl, hP, hK, hD0, hT⟩ := hv
  have hx := B.exec
  have hb := B.bytes
  have hr := B.returns
  have hts := atoms_spec (ws := wsL_of) B.pre
  have hown : s.vm.findClass RL = some m.cls := findClass_of_methodNamed B.named
  have hlocks := B.notSynchronized
  have hD := eg_D_of hD0
  have hS : va_S (eg_A (wX q cI cJ (nI n) mk lt tg pa an la kn fb fh nb te wt bh)) s.heap s.heap [] := va_S.rf
  have hl := lv_entry ([.ref (q 0), .int (nI 1), .int x0, .int x1]) (n := 5) (Nat.le_of_ble_eq_true rfl)
  rw [lg_entry_eq]
  generalize (lg_sl ([.ref (q 0), .int (nI 1), .int x0, .int x1]) ++ List.replicate (5 - (lg_sl ([.ref (q 0), .int (nI 1), .int x0, .int x1])).length) Slot.unset).toArray = ls at hl ⊢
  have hl : lv_has ls 5 [(0, .ref (q 0)), (1, .int (nI 1)), (2, .int x0), (3, .int x1)] := hl
  generalize h0H : s.heap = H at hP ⊢
  have hS : va_S (eg_A (wX q cI cJ (nI n) mk lt tg pa an la kn fb fh nb te wt bh)) s.heap H [] := by rw [← h0H]; exact hS
  generalize ([] : List Loc) = locs at hS ⊢
  refine lv_iload_n hx hb dL_of_0 rfl (lv_at hl 1 rfl) ?_
  refine lv_if_ne (tgt := 12) hx hb dL_of_1 (by decide) (fun _ => ?_) (fun h => absurd h (by decide +kernel))
  refine lv_iload_n hx hb dL_of_12 rfl (lv_at hl 1 rfl) ?_
  refine lv_iconst (v := nI 1) hx hb dL_of_13 (by decide +kernel) ?_
  refine lv_icmp_ne (tgt := 25) hx hb dL_of_14 (by decide) (fun h => absurd rfl h) (fun _ => ?_)
  refine lv_aload_n hx hb dL_of_17 rfl (lv_at hl 0 rfl) ?_
  refine lv_iload_n hx hb dL_of_18 rfl (lv_at hl 2 rfl) ?_
  refine eg_callWVc (wr := []) (As := [.int x0]) (rest := []) hx hb hml hown hts hK hP hD hS [0, 1, 2, 3, 4, 5, 6, 7, 8, 9, 10, 11, 12] [] rfl rfl (by decide) hM (cwV 1 hts gL_of_X0_concurrent rfl hrm.1 hrm.2.1 (by decide +kernel) ⟨hrm.2.2.1, hrm.2.2.2⟩) (va_recv hK hP (ci := 0) (q0 := 0) rfl rfl) rfl hl.1 rfl (Nat.le_of_ble_eq_true rfl) dL_of_19 ⟨Nat.le_of_ble_eq_true rfl, Nat.le_of_ble_eq_true rfl⟩ (fun v9 w9 H locs hR9 hw9 hP hD hS => ?_)
  obtain ⟨x, rfl⟩ := hRq _ _ hR9
  refine lv_goto (tgt := 85) hx hb dL_of_22 (by decide) ?_
  exact W.iret hx hb hr (fun t9 ht9 _ => ⟨some (.int x), w9, rfl, ⟨x, rfl, hR9⟩, hw9, by rw [ht9]; exact hP, hS.F ht9⟩) hS.2.2 dL_of_85
set_option maxHeartbeats 4000000 in
set_option maxRecDepth 100000 in
theorem wz_of_toReplay (l : Launch) (D : va_G) (cI cJ : ClassId) (q : Nat → Nat) (n : Nat) (mk lt tg : Nat → Int32) (pa an la kn : Nat → Int64) (fb : Int32) (fh nb te wt bh : Nat → Int32) (x0 x1 : Int32) {rm : Room} (hrm : rm.cells = 0 ∧ rm.slots = 0 ∧ rm.frames + 1 ≤ 9 ∧ 8 + (9 + 11) + rm.locals ≤ 150) {Rq : Option Value → va_W → Prop} (hM : eg_MW D (tyL cI cJ) l yX0_toReplay wsX0_toReplay rm 0 0 [.ref (q 0), .int x0] (wX q cI cJ (nI n) mk lt tg pa an la kn fb fh nb te wt bh) Rq) (hRq : ∀ v w1, Rq v w1 → ∃ x : Int32, v = some (.int x)) : eg_MLm D (tyL cI cJ) l yL_of wsL_of (rmT 0) [.ref (q 0), .int (nI 2), .int x0, .int x1] (wX q cI cJ (nI n) mk lt tg pa an la kn fb fh nb te wt bh) (fun r w1 => ∃ x : Int32, r = some (.int x) ∧ Rq (some (.int x)) w1) 0 0 := by
  refine eg_ofWH (cc := cL_of) (maxL := 5) (ret := (some .int)) (hh := [(0, 85, 86, 14)]) (by decide) rfl ?_
  intro p e s m args below meth c s₁ B hml htb hv
  obtain ⟨rfl, hP, hK, hD0, hT⟩ := hv
  have hx := B.exec
  have hb := B.bytes
  have hr := B.returns
  have hts := atoms_spec (ws := wsL_of) B.pre
  have hown : s.vm.findClass RL = some m.cls := findClass_of_methodNamed B.named
  have hlocks := B.notSynchronized
  have hD := eg_D_of hD0
  have hS : va_S (eg_A (wX q cI cJ (nI n) mk lt tg pa an la kn fb fh nb te wt bh)) s.heap s.heap [] := va_S.rf
  have hl := lv_entry ([.ref (q 0), .int (nI 2), .int x0, .int x1]) (n := 5) (Nat.le_of_ble_eq_true rfl)
  rw [lg_entry_eq]
  generalize (lg_sl ([.ref (q 0), .int (nI 2), .int x0, .int x1]) ++ List.replicate (5 - (lg_sl ([.ref (q 0), .int (nI 2), .int x0, .int x1])).length) Slot.unset).toArray = ls at hl ⊢
  have hl : lv_has ls 5 [(0, .ref (q 0)), (1, .int (nI 2)), (2, .int x0), (3, .int x1)] := hl
  generalize h0H : s.heap = H at hP ⊢
  have hS : va_S (eg_A (wX q cI cJ (nI n) mk lt tg pa an la kn fb fh nb te wt bh)) s.heap H [] := by rw [← h0H]; exact hS
  generalize ([] : List Loc) = locs at hS ⊢
  refine lv_iload_n hx hb dL_of_0 rfl (lv_at hl 1 rfl) ?_
  refine lv_if_ne (tgt := 12) hx hb dL_of_1 (by decide) (fun _ => ?_) (fun h => absurd h (by decide +kernel))
  refine lv_iload_n hx hb dL_of_12 rfl (lv_at hl 1 rfl) ?_
  refine lv_iconst (v := nI 1) hx hb dL_of_13 (by decide +kernel) ?_
  refine lv_icmp_ne (tgt := 25) hx hb dL_of_14 (by decide) (fun _ => ?_) (fun h => absurd h (by decide +kernel))
  refine lv_iload_n hx hb dL_of_25 rfl (lv_at hl 1 rfl) ?_
  refine lv_iconst (v := nI 2) hx hb dL_of_26 (by decide +kernel) ?_
  refine lv_icmp_ne (tgt := 38) hx hb dL_of_27 (by decide) (fun h => absurd rfl h) (fun _ => ?_)
  refine lv_aload_n hx hb dL_of_30 rfl (lv_at hl 0 rfl) ?_
  refine lv_iload_n hx hb dL_of_31 rfl (lv_at hl 2 rfl) ?_
  refine eg_callWVc (wr := []) (As := [.int x0]) (rest := []) hx hb hml hown hts hK hP hD hS [0, 1, 2, 3, 4, 5, 6, 7, 8, 9, 10, 11, 12] [] rfl rfl (by decide) hM (cwV 1 hts gL_of_X0_toReplay rfl hrm.1 hrm.2.1 (by decide +kernel) ⟨hrm.2.2.1, hrm.2.2.2⟩) (va_recv hK hP (ci := 0) (q0 := 0) rfl rfl) rfl hl.1 rfl (Nat.le_of_ble_eq_true rfl) dL_of_32 ⟨Nat.le_of_ble_eq_true rfl, Nat.le_of_ble_eq_true rfl⟩ (fun v9 w9 H locs hR9 hw9 hP hD hS => ?_)
  obtain ⟨x, rfl⟩ := hRq _ _ hR9
  refine lv_goto (tgt := 85) hx hb dL_of_35 (by decide) ?_
  exact W.iret hx hb hr (fun t9 ht9 _ => ⟨some (.int x), w9, rfl, ⟨x, rfl, hR9⟩, hw9, by rw [ht9]; exact hP, hS.F ht9⟩) hS.2.2 dL_of_85
set_option maxHeartbeats 4000000 in
set_option maxRecDepth 100000 in
theorem wz_of_runs (l : Launch) (D : va_G) (cI cJ : ClassId) (q : Nat → Nat) (n : Nat) (mk lt tg : Nat → Int32) (pa an la kn : Nat → Int64) (fb : Int32) (fh nb te wt bh : Nat → Int32) (x0 x1 : Int32) {rm : Room} (hrm : rm.cells = 0 ∧ rm.slots = 0 ∧ rm.frames + 1 ≤ 9 ∧ 8 + (6 + 11) + rm.locals ≤ 150) {Rq : Option Value → va_W → Prop} (hM : eg_MW D (tyL cI cJ) l yX0_runs wsX0_runs rm 0 0 [.ref (q 0), .int x0] (wX q cI cJ (nI n) mk lt tg pa an la kn fb fh nb te wt bh) Rq) (hRq : ∀ v w1, Rq v w1 → ∃ x : Int32, v = some (.int x)) : eg_MLm D (tyL cI cJ) l yL_of wsL_of (rmT 0) [.ref (q 0), .int (nI 3), .int x0, .int x1] (wX q cI cJ (nI n) mk lt tg pa an la kn fb fh nb te wt bh) (fun r w1 => ∃ x : Int32, r = some (.int x) ∧ Rq (some (.int x)) w1) 0 0 := by
  refine eg_ofWH (cc := cL_of) (maxL := 5) (ret := (some .int)) (hh := [(0, 85, 86, 14)]) (by decide) rfl ?_
  intro p e s m args below meth c s₁ B hml htb hv
  obtain ⟨rfl, hP, hK, hD0, hT⟩ := hv
  have hx := B.exec
  have hb := B.bytes
  have hr := B.returns
  have hts := atoms_spec (ws := wsL_of) B.pre
  have hown : s.vm.findClass RL = some m.cls := findClass_of_methodNamed B.named
  have hlocks := B.notSynchronized
  have hD := eg_D_of hD0
  have hS : va_S (eg_A (wX q cI cJ (nI n) mk lt tg pa an la kn fb fh nb te wt bh)) s.heap s.heap [] := va_S.rf
  have hl := lv_entry ([.ref (q 0), .int (nI 3), .int x0, .int x1]) (n := 5) (Nat.le_of_ble_eq_true rfl)
  rw [lg_entry_eq]
  generalize (lg_sl ([.ref (q 0), .int (nI 3), .int x0, .int x1]) ++ List.replicate (5 - (lg_sl ([.ref (q 0), .int (nI 3), .int x0, .int x1])).length) Slot.unset).toArray = ls at hl ⊢
  have hl : lv_has ls 5 [(0, .ref (q 0)), (1, .int (nI 3)), (2, .int x0), (3, .int x1)] := hl
  generalize h0H : s.heap = H at hP ⊢
  have hS : va_S (eg_A (wX q cI cJ (nI n) mk lt tg pa an la kn fb fh nb te wt bh)) s.heap H [] := by rw [← h0H]; exact hS
  generalize ([] : List Loc) = locs at hS ⊢
  refine lv_iload_n hx hb dL_of_0 rfl (lv_at hl 1 rfl) ?_
  refine lv_if_ne (tgt := 12) hx hb dL_of_1 (by decide) (fun _ => ?_) (fun h => absurd h (by decide +kernel))
  refine lv_iload_n hx hb dL_of_12 rfl (lv_at hl 1 rfl) ?_
  refine lv_iconst (v := nI 1) hx hb dL_of_13 (by decide +kernel) ?_
  refine lv_icmp_ne (tgt := 25) hx hb dL_of_14 (by decide) (fun _ => ?_) (fun h => absurd h (by decide +kernel))
  refine lv_iload_n hx hb dL_of_25 rfl (lv_at hl 1 rfl) ?_
  refine lv_iconst (v := nI 2) hx hb dL_of_26 (by decide +kernel) ?_
  refine lv_icmp_ne (tgt := 38) hx hb dL_of_27 (by decide) (fun _ => ?_) (fun h => absurd h (by decide +kernel))
  refine lv_iload_n hx hb dL_of_38 rfl (lv_at hl 1 rfl) ?_
  refine lv_iconst (v := nI 3) hx hb dL_of_39 (by decide +kernel) ?_
  refine lv_icmp_ne (tgt := 51) hx hb dL_of_40 (by decide) (fun h => absurd rfl h) (fun _ => ?_)
  refine lv_aload_n hx hb dL_of_43 rfl (lv_at hl 0 rfl) ?_
  refine lv_iload_n hx hb dL_of_44 rfl (lv_at hl 2 rfl) ?_
  refine eg_callWVc (wr := []) (As := [.int x0]) (rest := []) hx hb hml hown hts hK hP hD hS [0, 1, 2, 3, 4, 5, 6, 7, 8, 9, 10, 11, 12] [] rfl rfl (by decide) hM (cwV 1 hts gL_of_X0_runs rfl hrm.1 hrm.2.1 (by decide +kernel) ⟨hrm.2.2.1, hrm.2.2.2⟩) (va_recv hK hP (ci := 0) (q0 := 0) rfl rfl) rfl hl.1 rfl (Nat.le_of_ble_eq_true rfl) dL_of_45 ⟨Nat.le_of_ble_eq_true rfl, Nat.le_of_ble_eq_true rfl⟩ (fun v9 w9 H locs hR9 hw9 hP hD hS => ?_)
  obtain ⟨x, rfl⟩ := hRq _ _ hR9
  refine lv_goto (tgt := 85) hx hb dL_of_48 (by decide) ?_
  exact W.iret hx hb hr (fun t9 ht9 _ => ⟨some (.int x), w9, rfl, ⟨x, rfl, hR9⟩, hw9, by rw [ht9]; exact hP, hS.F ht9⟩) hS.2.2 dL_of_85
set_option maxHeartbeats 4000000 in
set_option maxRecDepth 100000 in
theorem wz_set_version (l : Launch) (D : va_G) (cI cJ : ClassId) (q : Nat → Nat) (n : Nat) (mk lt tg : Nat → Int32) (pa an la kn : Nat → Int64) (fb : Int32) (fh nb te wt bh : Nat → Int32) (x0 x1 : Int32) {rm : Room} (hrm : rm.cells = 0 ∧ rm.slots = 0 ∧ rm.frames + 1 ≤ 9 ∧ 8 + (2 + 11) + rm.locals ≤ 150) {Rq : Option Value → va_W → Prop} (hM : eg_MW D (tyL cI cJ) l yX0_version wsX0_version rm 0 0 [.ref (q 0), .int x0] (wX q cI cJ (nI n) mk lt tg pa an la kn fb fh nb te wt bh) Rq) (hRq : ∀ v w1, Rq v w1 → ∃ x : Int64, v = some (.long x)) : eg_MLm D (tyL cI cJ) l yL_set wsL_set (rmT 0) [.ref (q 0), .int (nI 0), .int x0, .int x1] (wX q cI cJ (nI n) mk lt tg pa an la kn fb fh nb te wt bh) (fun r w1 => ∃ x : Int64, r = some (.long x) ∧ Rq (some (.long x)) w1) 0 0 := by
  refine eg_ofWH (cc := cL_set) (maxL := 5) (ret := (some .long)) (hh := [(0, 59, 60, 14)]) (by decide) rfl ?_
  intro p e s m args below meth c s₁ B hml htb hv
  obtain ⟨rfl, hP, hK, hD0, hT⟩ := hv
  have hx := B.exec
  have hb := B.bytes
  have hr := B.returns
  have hts := atoms_spec (ws := wsL_set) B.pre
  have hown : s.vm.findClass RL = some m.cls := findClass_of_methodNamed B.named
  have hlocks := B.notSynchronized
  have hD := eg_D_of hD0
  have hS : va_S (eg_A (wX q cI cJ (nI n) mk lt tg pa an la kn fb fh nb te wt bh)) s.heap s.heap [] := va_S.rf
  have hl := lv_entry ([.ref (q 0), .int (nI 0), .int x0, .int x1]) (n := 5) (Nat.le_of_ble_eq_true rfl)
  rw [lg_entry_eq]
  generalize (lg_sl ([.ref (q 0), .int (nI 0), .int x0, .int x1]) ++ List.replicate (5 - (lg_sl ([.ref (q 0), .int (nI 0), .int x0, .int x1])).length) Slot.unset).toArray = ls at hl ⊢
  have hl : lv_has ls 5 [(0, .ref (q 0)), (1, .int (nI 0)), (2, .int x0), (3, .int x1)] := hl
  generalize h0H : s.heap = H at hP ⊢
  have hS : va_S (eg_A (wX q cI cJ (nI n) mk lt tg pa an la kn fb fh nb te wt bh)) s.heap H [] := by rw [← h0H]; exact hS
  generalize ([] : List Loc) = locs at hS ⊢
  refine lv_iload_n hx hb dL_set_0 rfl (lv_at hl 1 rfl) ?_
  refine lv_if_ne (tgt := 12) hx hb dL_set_1 (by decide) (fun h => absurd nI_0 h) (fun _ => ?_)
  refine lv_aload_n hx hb dL_set_4 rfl (lv_at hl 0 rfl) ?_
  refine lv_iload_n hx hb dL_set_5 rfl (lv_at hl 2 rfl) ?_
  refine eg_callWVc (wr := []) (As := [.int x0]) (rest := []) hx hb hml hown hts hK hP hD hS [0, 1, 2, 3, 4, 5, 6, 7, 8, 9, 10, 11, 12] [] rfl rfl (by decide) hM (cwV 1 hts gL_set_X0_version rfl hrm.1 hrm.2.1 (by decide +kernel) ⟨hrm.2.2.1, hrm.2.2.2⟩) (va_recv hK hP (ci := 0) (q0 := 0) rfl rfl) rfl hl.1 rfl (Nat.le_of_ble_eq_true rfl) dL_set_6 ⟨Nat.le_of_ble_eq_true rfl, Nat.le_of_ble_eq_true rfl⟩ (fun v9 w9 H locs hR9 hw9 hP hD hS => ?_)
  obtain ⟨x, rfl⟩ := hRq _ _ hR9
  refine lv_goto (tgt := 59) hx hb dL_set_9 (by decide) ?_
  exact W.lret hx hb hr (fun t9 ht9 _ => ⟨some (.long x), w9, rfl, ⟨x, rfl, hR9⟩, hw9, by rw [ht9]; exact hP, hS.F ht9⟩) hS.2.2 dL_set_59
set_option maxHeartbeats 4000000 in
set_option maxRecDepth 100000 in
theorem wz_set_heads (l : Launch) (D : va_G) (cI cJ : ClassId) (q : Nat → Nat) (n : Nat) (mk lt tg : Nat → Int32) (pa an la kn : Nat → Int64) (fb : Int32) (fh nb te wt bh : Nat → Int32) (x0 x1 : Int32) {rm : Room} (hrm : rm.cells = 0 ∧ rm.slots = 0 ∧ rm.frames + 1 ≤ 9 ∧ 8 + (2 + 11) + rm.locals ≤ 150) {Rq : Option Value → va_W → Prop} (hM : eg_MW D (tyL cI cJ) l yX0_heads wsX0_heads rm 0 0 [.ref (q 0), .int x0] (wX q cI cJ (nI n) mk lt tg pa an la kn fb fh nb te wt bh) Rq) (hRq : ∀ v w1, Rq v w1 → ∃ x : Int64, v = some (.long x)) : eg_MLm D (tyL cI cJ) l yL_set wsL_set (rmT 0) [.ref (q 0), .int (nI 1), .int x0, .int x1] (wX q cI cJ (nI n) mk lt tg pa an la kn fb fh nb te wt bh) (fun r w1 => ∃ x : Int64, r = some (.long x) ∧ Rq (some (.long x)) w1) 0 0 := by
  refine eg_ofWH (cc := cL_set) (maxL := 5) (ret := (some .long)) (hh := [(0, 59, 60, 14)]) (by decide) rfl ?_
  intro p e s m args below meth c s₁ B hml htb hv
  obtain ⟨rfl, hP, hK, hD0, hT⟩ := hv
  have hx := B.exec
  have hb := B.bytes
  have hr := B.returns
  have hts := atoms_spec (ws := wsL_set) B.pre
  have hown : s.vm.findClass RL = some m.cls := findClass_of_methodNamed B.named
  have hlocks := B.notSynchronized
  have hD := eg_D_of hD0
  have hS : va_S (eg_A (wX q cI cJ (nI n) mk lt tg pa an la kn fb fh nb te wt bh)) s.heap s.heap [] := va_S.rf
  have hl := lv_entry ([.ref (q 0), .int (nI 1), .int x0, .int x1]) (n := 5) (Nat.le_of_ble_eq_true rfl)
  rw [lg_entry_eq]
  generalize (lg_sl ([.ref (q 0), .int (nI 1), .int x0, .int x1]) ++ List.replicate (5 - (lg_sl ([.ref (q 0), .int (nI 1), .int x0, .int x1])).length) Slot.unset).toArray = ls at hl ⊢
  have hl : lv_has ls 5 [(0, .ref (q 0)), (1, .int (nI 1)), (2, .int x0), (3, .int x1)] := hl
  generalize h0H : s.heap = H at hP ⊢
  have hS : va_S (eg_A (wX q cI cJ (nI n) mk lt tg pa an la kn fb fh nb te wt bh)) s.heap H [] := by rw [← h0H]; exact hS
  generalize ([] : List Loc) = locs at hS ⊢
  refine lv_iload_n hx hb dL_set_0 rfl (lv_at hl 1 rfl) ?_
  refine lv_if_ne (tgt := 12) hx hb dL_set_1 (by decide) (fun _ => ?_) (fun h => absurd h (by decide +kernel))
  refine lv_iload_n hx hb dL_set_12 rfl (lv_at hl 1 rfl) ?_
  refine lv_iconst (v := nI 1) hx hb dL_set_13 (by decide +kernel) ?_
  refine lv_icmp_ne (tgt := 25) hx hb dL_set_14 (by decide) (fun h => absurd rfl h) (fun _ => ?_)
  refine lv_aload_n hx hb dL_set_17 rfl (lv_at hl 0 rfl) ?_
  refine lv_iload_n hx hb dL_set_18 rfl (lv_at hl 2 rfl) ?_
  refine eg_callWVc (wr := []) (As := [.int x0]) (rest := []) hx hb hml hown hts hK hP hD hS [0, 1, 2, 3, 4, 5, 6, 7, 8, 9, 10, 11, 12] [] rfl rfl (by decide) hM (cwV 1 hts gL_set_X0_heads rfl hrm.1 hrm.2.1 (by decide +kernel) ⟨hrm.2.2.1, hrm.2.2.2⟩) (va_recv hK hP (ci := 0) (q0 := 0) rfl rfl) rfl hl.1 rfl (Nat.le_of_ble_eq_true rfl) dL_set_19 ⟨Nat.le_of_ble_eq_true rfl, Nat.le_of_ble_eq_true rfl⟩ (fun v9 w9 H locs hR9 hw9 hP hD hS => ?_)
  obtain ⟨x, rfl⟩ := hRq _ _ hR9
  refine lv_goto (tgt := 59) hx hb dL_set_22 (by decide) ?_
  exact W.lret hx hb hr (fun t9 ht9 _ => ⟨some (.long x), w9, rfl, ⟨x, rfl, hR9⟩, hw9, by rw [ht9]; exact hP, hS.F ht9⟩) hS.2.2 dL_set_59
set_option maxHeartbeats 4000000 in
set_option maxRecDepth 100000 in
theorem wz_set_critical (l : Launch) (D : va_G) (cI cJ : ClassId) (q : Nat → Nat) (n : Nat) (mk lt tg : Nat → Int32) (pa an la kn : Nat → Int64) (fb : Int32) (fh nb te wt bh : Nat → Int32) (x0 x1 : Int32) {rm : Room} (hrm : rm.cells = 0 ∧ rm.slots = 0 ∧ rm.frames + 1 ≤ 9 ∧ 8 + (2 + 11) + rm.locals ≤ 150) {Rq : Option Value → va_W → Prop} (hM : eg_MW D (tyL cI cJ) l yX0_critical wsX0_critical rm 0 0 [.ref (q 0), .int x0] (wX q cI cJ (nI n) mk lt tg pa an la kn fb fh nb te wt bh) Rq) (hRq : ∀ v w1, Rq v w1 → ∃ x : Int64, v = some (.long x)) : eg_MLm D (tyL cI cJ) l yL_set wsL_set (rmT 0) [.ref (q 0), .int (nI 2), .int x0, .int x1] (wX q cI cJ (nI n) mk lt tg pa an la kn fb fh nb te wt bh) (fun r w1 => ∃ x : Int64, r = some (.long x) ∧ Rq (some (.long x)) w1) 0 0 := by
  refine eg_ofWH (cc := cL_set) (maxL := 5) (ret := (some .long)) (hh := [(0, 59, 60, 14)]) (by decide) rfl ?_
  intro p e s m args below meth c s₁ B hml htb hv
  obtain ⟨rfl, hP, hK, hD0, hT⟩ := hv
  have hx := B.exec
  have hb := B.bytes
  have hr := B.returns
  have hts := atoms_spec (ws := wsL_set) B.pre
  have hown : s.vm.findClass RL = some m.cls := findClass_of_methodNamed B.named
  have hlocks := B.notSynchronized
  have hD := eg_D_of hD0
  have hS : va_S (eg_A (wX q cI cJ (nI n) mk lt tg pa an la kn fb fh nb te wt bh)) s.heap s.heap [] := va_S.rf
  have hl := lv_entry ([.ref (q 0), .int (nI 2), .int x0, .int x1]) (n := 5) (Nat.le_of_ble_eq_true rfl)
  rw [lg_entry_eq]
  generalize (lg_sl ([.ref (q 0), .int (nI 2), .int x0, .int x1]) ++ List.replicate (5 - (lg_sl ([.ref (q 0), .int (nI 2), .int x0, .int x1])).length) Slot.unset).toArray = ls at hl ⊢
  have hl : lv_has ls 5 [(0, .ref (q 0)), (1, .int (nI 2)), (2, .int x0), (3, .int x1)] := hl
  generalize h0H : s.heap = H at hP ⊢
  have hS : va_S (eg_A (wX q cI cJ (nI n) mk lt tg pa an la kn fb fh nb te wt bh)) s.heap H [] := by rw [← h0H]; exact hS
  generalize ([] : List Loc) = locs at hS ⊢
  refine lv_iload_n hx hb dL_set_0 rfl (lv_at hl 1 rfl) ?_
  refine lv_if_ne (tgt := 12) hx hb dL_set_1 (by decide) (fun _ => ?_) (fun h => absurd h (by decide +kernel))
  refine lv_iload_n hx hb dL_set_12 rfl (lv_at hl 1 rfl) ?_
  refine lv_iconst (v := nI 1) hx hb dL_set_13 (by decide +kernel) ?_
  refine lv_icmp_ne (tgt := 25) hx hb dL_set_14 (by decide) (fun _ => ?_) (fun h => absurd h (by decide +kernel))
  refine lv_iload_n hx hb dL_set_25 rfl (lv_at hl 1 rfl) ?_
  refine lv_iconst (v := nI 2) hx hb dL_set_26 (by decide +kernel) ?_
  refine lv_icmp_ne (tgt := 38) hx hb dL_set_27 (by decide) (fun h => absurd rfl h) (fun _ => ?_)
  refine lv_aload_n hx hb dL_set_30 rfl (lv_at hl 0 rfl) ?_
  refine lv_iload_n hx hb dL_set_31 rfl (lv_at hl 2 rfl) ?_
  refine eg_callWVc (wr := []) (As := [.int x0]) (rest := []) hx hb hml hown hts hK hP hD hS [0, 1, 2, 3, 4, 5, 6, 7, 8, 9, 10, 11, 12] [] rfl rfl (by decide) hM (cwV 1 hts gL_set_X0_critical rfl hrm.1 hrm.2.1 (by decide +kernel) ⟨hrm.2.2.1, hrm.2.2.2⟩) (va_recv hK hP (ci := 0) (q0 := 0) rfl rfl) rfl hl.1 rfl (Nat.le_of_ble_eq_true rfl) dL_set_32 ⟨Nat.le_of_ble_eq_true rfl, Nat.le_of_ble_eq_true rfl⟩ (fun v9 w9 H locs hR9 hw9 hP hD hS => ?_)
  obtain ⟨x, rfl⟩ := hRq _ _ hR9
  refine lv_goto (tgt := 59) hx hb dL_set_35 (by decide) ?_
  exact W.lret hx hb hr (fun t9 ht9 _ => ⟨some (.long x), w9, rfl, ⟨x, rfl, hR9⟩, hw9, by rw [ht9]; exact hP, hS.F ht9⟩) hS.2.2 dL_set_59
set_option maxHeartbeats 4000000 in
set_option maxRecDepth 100000 in
theorem wz_set_commonHeads (l : Launch) (D : va_G) (cI cJ : ClassId) (q : Nat → Nat) (n : Nat) (mk lt tg : Nat → Int32) (pa an la kn : Nat → Int64) (fb : Int32) (fh nb te wt bh : Nat → Int32) (x0 x1 : Int32) {rm : Room} (hrm : rm.cells = 0 ∧ rm.slots = 0 ∧ rm.frames + 1 ≤ 9 ∧ 8 + (3 + 11) + rm.locals ≤ 150) {Rq : Option Value → va_W → Prop} (hM : eg_MW D (tyL cI cJ) l yX0_commonHeads wsX0_commonHeads rm 0 0 [.ref (q 0), .int x0, .int x1] (wX q cI cJ (nI n) mk lt tg pa an la kn fb fh nb te wt bh) Rq) (hRq : ∀ v w1, Rq v w1 → ∃ x : Int64, v = some (.long x)) : eg_MLm D (tyL cI cJ) l yL_set wsL_set (rmT 0) [.ref (q 0), .int (nI 3), .int x0, .int x1] (wX q cI cJ (nI n) mk lt tg pa an la kn fb fh nb te wt bh) (fun r w1 => ∃ x : Int64, r = some (.long x) ∧ Rq (some (.long x)) w1) 0 0 := by
  refine eg_ofWH (cc := cL_set) (maxL := 5) (ret := (some .long)) (hh := [(0, 59, 60, 14)]) (by decide) rfl ?_
  intro p e s m args below meth c s₁ B hml htb hv
  obtain ⟨rfl, hP, hK, hD0, hT⟩ := hv
  have hx := B.exec
  have hb := B.bytes
  have hr := B.returns
  have hts := atoms_spec (ws := wsL_set) B.pre
  have hown : s.vm.findClass RL = some m.cls := findClass_of_methodNamed B.named
  have hlocks := B.notSynchronized
  have hD := eg_D_of hD0
  have hS : va_S (eg_A (wX q cI cJ (nI n) mk lt tg pa an la kn fb fh nb te wt bh)) s.heap s.heap [] := va_S.rf
  have hl := lv_entry ([.ref (q 0), .int (nI 3), .int x0, .int x1]) (n := 5) (Nat.le_of_ble_eq_true rfl)
  rw [lg_entry_eq]
  generalize (lg_sl ([.ref (q 0), .int (nI 3), .int x0, .int x1]) ++ List.replicate (5 - (lg_sl ([.ref (q 0), .int (nI 3), .int x0, .int x1])).length) Slot.unset).toArray = ls at hl ⊢
  have hl : lv_has ls 5 [(0, .ref (q 0)), (1, .int (nI 3)), (2, .int x0), (3, .int x1)] := hl
  generalize h0H : s.heap = H at hP ⊢
  have hS : va_S (eg_A (wX q cI cJ (nI n) mk lt tg pa an la kn fb fh nb te wt bh)) s.heap H [] := by rw [← h0H]; exact hS
  generalize ([] : List Loc) = locs at hS ⊢
  refine lv_iload_n hx hb dL_set_0 rfl (lv_at hl 1 rfl) ?_
  refine lv_if_ne (tgt := 12) hx hb dL_set_1 (by decide) (fun _ => ?_) (fun h => absurd h (by decide +kernel))
  refine lv_iload_n hx hb dL_set_12 rfl (lv_at hl 1 rfl) ?_
  refine lv_iconst (v := nI 1) hx hb dL_set_13 (by decide +kernel) ?_
  refine lv_icmp_ne (tgt := 25) hx hb dL_set_14 (by decide) (fun _ => ?_) (fun h => absurd h (by decide +kernel))
  refine lv_iload_n hx hb dL_set_25 rfl (lv_at hl 1 rfl) ?_
  refine lv_iconst (v := nI 2) hx hb dL_set_26 (by decide +kernel) ?_
  refine lv_icmp_ne (tgt := 38) hx hb dL_set_27 (by decide) (fun _ => ?_) (fun h => absurd h (by decide +kernel))
  refine lv_iload_n hx hb dL_set_38 rfl (lv_at hl 1 rfl) ?_
  refine lv_iconst (v := nI 3) hx hb dL_set_39 (by decide +kernel) ?_
  refine lv_icmp_ne (tgt := 52) hx hb dL_set_40 (by decide) (fun h => absurd rfl h) (fun _ => ?_)
  refine lv_aload_n hx hb dL_set_43 rfl (lv_at hl 0 rfl) ?_
  refine lv_iload_n hx hb dL_set_44 rfl (lv_at hl 2 rfl) ?_
  refine lv_iload_n hx hb dL_set_45 rfl (lv_at hl 3 rfl) ?_
  refine eg_callWVc (wr := []) (As := [.int x0, .int x1]) (rest := []) hx hb hml hown hts hK hP hD hS [0, 1, 2, 3, 4, 5, 6, 7, 8, 9, 10, 11, 12] [] rfl rfl (by decide) hM (cwV 2 hts gL_set_X0_commonHeads rfl hrm.1 hrm.2.1 (by decide +kernel) ⟨hrm.2.2.1, hrm.2.2.2⟩) (va_recv hK hP (ci := 0) (q0 := 0) rfl rfl) rfl hl.1 rfl (Nat.le_of_ble_eq_true rfl) dL_set_46 ⟨Nat.le_of_ble_eq_true rfl, Nat.le_of_ble_eq_true rfl⟩ (fun v9 w9 H locs hR9 hw9 hP hD hS => ?_)
  obtain ⟨x, rfl⟩ := hRq _ _ hR9
  refine lv_goto (tgt := 59) hx hb dL_set_49 (by decide) ?_
  exact W.lret hx hb hr (fun t9 ht9 _ => ⟨some (.long x), w9, rfl, ⟨x, rfl, hR9⟩, hw9, by rw [ht9]; exact hP, hS.F ht9⟩) hS.2.2 dL_set_59
set_option maxHeartbeats 4000000 in
set_option maxRecDepth 100000 in
theorem wz_set_lettersBy (l : Launch) (D : va_G) (cI cJ : ClassId) (q : Nat → Nat) (n : Nat) (mk lt tg : Nat → Int32) (pa an la kn : Nat → Int64) (fb : Int32) (fh nb te wt bh : Nat → Int32) (x0 x1 : Int32) {rm : Room} (hrm : rm.cells = 0 ∧ rm.slots = 0 ∧ rm.frames + 1 ≤ 9 ∧ 8 + (6 + 11) + rm.locals ≤ 150) {Rq : Option Value → va_W → Prop} (hM : eg_MW D (tyL cI cJ) l yX0_lettersBy wsX0_lettersBy rm 0 0 [.ref (q 0), .int x0, .int x1] (wX q cI cJ (nI n) mk lt tg pa an la kn fb fh nb te wt bh) Rq) (hRq : ∀ v w1, Rq v w1 → ∃ x : Int32, v = some (.int x)) : eg_MLm D (tyL cI cJ) l yL_set wsL_set (rmT 0) [.ref (q 0), .int (nI 4), .int x0, .int x1] (wX q cI cJ (nI n) mk lt tg pa an la kn fb fh nb te wt bh) (fun r w1 => ∃ x : Int32, r = some (.long x.toInt64) ∧ Rq (some (.int x)) w1) 0 0 := by
  refine eg_ofWH (cc := cL_set) (maxL := 5) (ret := (some .long)) (hh := [(0, 59, 60, 14)]) (by decide) rfl ?_
  intro p e s m args below meth c s₁ B hml htb hv
  obtain ⟨rfl, hP, hK, hD0, hT⟩ := hv
  have hx := B.exec
  have hb := B.bytes
  have hr := B.returns
  have hts := atoms_spec (ws := wsL_set) B.pre
  have hown : s.vm.findClass RL = some m.cls := findClass_of_methodNamed B.named
  have hlocks := B.notSynchronized
  have hD := eg_D_of hD0
  have hS : va_S (eg_A (wX q cI cJ (nI n) mk lt tg pa an la kn fb fh nb te wt bh)) s.heap s.heap [] := va_S.rf
  have hl := lv_entry ([.ref (q 0), .int (nI 4), .int x0, .int x1]) (n := 5) (Nat.le_of_ble_eq_true rfl)
  rw [lg_entry_eq]
  generalize (lg_sl ([.ref (q 0), .int (nI 4), .int x0, .int x1]) ++ List.replicate (5 - (lg_sl ([.ref (q 0), .int (nI 4), .int x0, .int x1])).length) Slot.unset).toArray = ls at hl ⊢
  have hl : lv_has ls 5 [(0, .ref (q 0)), (1, .int (nI 4)), (2, .int x0), (3, .int x1)] := hl
  generalize h0H : s.heap = H at hP ⊢
  have hS : va_S (eg_A (wX q cI cJ (nI n) mk lt tg pa an la kn fb fh nb te wt bh)) s.heap H [] := by rw [← h0H]; exact hS
  generalize ([] : List Loc) = locs at hS ⊢
  refine lv_iload_n hx hb dL_set_0 rfl (lv_at hl 1 rfl) ?_
  refine lv_if_ne (tgt := 12) hx hb dL_set_1 (by decide) (fun _ => ?_) (fun h => absurd h (by decide +kernel))
  refine lv_iload_n hx hb dL_set_12 rfl (lv_at hl 1 rfl) ?_
  refine lv_iconst (v := nI 1) hx hb dL_set_13 (by decide +kernel) ?_
  refine lv_icmp_ne (tgt := 25) hx hb dL_set_14 (by decide) (fun _ => ?_) (fun h => absurd h (by decide +kernel))
  refine lv_iload_n hx hb dL_set_25 rfl (lv_at hl 1 rfl) ?_
  refine lv_iconst (v := nI 2) hx hb dL_set_26 (by decide +kernel) ?_
  refine lv_icmp_ne (tgt := 38) hx hb dL_set_27 (by decide) (fun _ => ?_) (fun h => absurd h (by decide +kernel))
  refine lv_iload_n hx hb dL_set_38 rfl (lv_at hl 1 rfl) ?_
  refine lv_iconst (v := nI 3) hx hb dL_set_39 (by decide +kernel) ?_
  refine lv_icmp_ne (tgt := 52) hx hb dL_set_40 (by decide) (fun _ => ?_) (fun h => absurd h (by decide +kernel))
  refine lv_aload_n hx hb dL_set_52 rfl (lv_at hl 0 rfl) ?_
  refine lv_iload_n hx hb dL_set_53 rfl (lv_at hl 2 rfl) ?_
  refine lv_iload_n hx hb dL_set_54 rfl (lv_at hl 3 rfl) ?_
  refine eg_callWVc (wr := []) (As := [.int x0, .int x1]) (rest := []) hx hb hml hown hts hK hP hD hS [0, 1, 2, 3, 4, 5, 6, 7, 8, 9, 10, 11, 12] [] rfl rfl (by decide) hM (cwV 2 hts gL_set_X0_lettersBy rfl hrm.1 hrm.2.1 (by decide +kernel) ⟨hrm.2.2.1, hrm.2.2.2⟩) (va_recv hK hP (ci := 0) (q0 := 0) rfl rfl) rfl hl.1 rfl (Nat.le_of_ble_eq_true rfl) dL_set_55 ⟨Nat.le_of_ble_eq_true rfl, Nat.le_of_ble_eq_true rfl⟩ (fun v9 w9 H locs hR9 hw9 hP hD hS => ?_)
  obtain ⟨x, rfl⟩ := hRq _ _ hR9
  refine lv_i2l (v := x.toInt64) hx hb dL_set_58 rfl ?_
  exact W.lret hx hb hr (fun t9 ht9 _ => ⟨some (.long x.toInt64), w9, rfl, ⟨x, rfl, hR9⟩, hw9, by rw [ht9]; exact hP, hS.F ht9⟩) hS.2.2 dL_set_59
set_option maxHeartbeats 4000000 in
set_option maxRecDepth 100000 in
theorem wz_by_parents (l : Launch) (D : va_G) (cI cJ : ClassId) (q : Nat → Nat) (n : Nat) (mk lt tg : Nat → Int32) (pa an la kn : Nat → Int64) (fb : Int32) (fh nb te wt bh : Nat → Int32) (x0 x1 : Int32) {rm : Room} (hrm : rm.cells = 0 ∧ rm.slots = 0 ∧ rm.frames + 1 ≤ 9 ∧ 8 + (2 + 11) + rm.locals ≤ 150) {Rq : Option Value → va_W → Prop} (hM : eg_MW D (tyL cI cJ) l yX0_parents wsX0_parents rm 0 0 [.ref (q 0), .int x0] (wX q cI cJ (nI n) mk lt tg pa an la kn fb fh nb te wt bh) Rq) (hRq : ∀ v w1, Rq v w1 → ∃ x : Int64, v = some (.long x)) : eg_MLm D (tyL cI cJ) l yL_by wsL_by (rmT 0) [.ref (q 0), .int (nI 0), .int x0, .int x1] (wX q cI cJ (nI n) mk lt tg pa an la kn fb fh nb te wt bh) (fun r w1 => ∃ x : Int64, r = some (.long x) ∧ Rq (some (.long x)) w1) 0 0 := by
  refine eg_ofWH (cc := cL_by) (maxL := 5) (ret := (some .long)) (hh := [(0, 69, 70, 14)]) (by decide) rfl ?_
  intro p e s m args below meth c s₁ B hml htb hv
  obtain ⟨rfl, hP, hK, hD0, hT⟩ := hv
  have hx := B.exec
  have hb := B.bytes
  have hr := B.returns
  have hts := atoms_spec (ws := wsL_by) B.pre
  have hown : s.vm.findClass RL = some m.cls := findClass_of_methodNamed B.named
  have hlocks := B.notSynchronized
  have hD := eg_D_of hD0
  have hS : va_S (eg_A (wX q cI cJ (nI n) mk lt tg pa an la kn fb fh nb te wt bh)) s.heap s.heap [] := va_S.rf
  have hl := lv_entry ([.ref (q 0), .int (nI 0), .int x0, .int x1]) (n := 5) (Nat.le_of_ble_eq_true rfl)
  rw [lg_entry_eq]
  generalize (lg_sl ([.ref (q 0), .int (nI 0), .int x0, .int x1]) ++ List.replicate (5 - (lg_sl ([.ref (q 0), .int (nI 0), .int x0, .int x1])).length) Slot.unset).toArray = ls at hl ⊢
  have hl : lv_has ls 5 [(0, .ref (q 0)), (1, .int (nI 0)), (2, .int x0), (3, .int x1)] := hl
  generalize h0H : s.heap = H at hP ⊢
  have hS : va_S (eg_A (wX q cI cJ (nI n) mk lt tg pa an la kn fb fh nb te wt bh)) s.heap H [] := by rw [← h0H]; exact hS
  generalize ([] : List Loc) = locs at hS ⊢
  refine lv_iload_n hx hb dL_by_0 rfl (lv_at hl 1 rfl) ?_
  refine lv_if_ne (tgt := 12) hx hb dL_by_1 (by decide) (fun h => absurd nI_0 h) (fun _ => ?_)
  refine lv_aload_n hx hb dL_by_4 rfl (lv_at hl 0 rfl) ?_
  refine lv_iload_n hx hb dL_by_5 rfl (lv_at hl 2 rfl) ?_
  refine eg_callWVc (wr := []) (As := [.int x0]) (rest := []) hx hb hml hown hts hK hP hD hS [0, 1, 2, 3, 4, 5, 6, 7, 8, 9, 10, 11, 12] [] rfl rfl (by decide) hM (cwV 1 hts gL_by_X0_parents rfl hrm.1 hrm.2.1 (by decide +kernel) ⟨hrm.2.2.1, hrm.2.2.2⟩) (va_recv hK hP (ci := 0) (q0 := 0) rfl rfl) rfl hl.1 rfl (Nat.le_of_ble_eq_true rfl) dL_by_6 ⟨Nat.le_of_ble_eq_true rfl, Nat.le_of_ble_eq_true rfl⟩ (fun v9 w9 H locs hR9 hw9 hP hD hS => ?_)
  obtain ⟨x, rfl⟩ := hRq _ _ hR9
  refine lv_goto (tgt := 69) hx hb dL_by_9 (by decide) ?_
  exact W.lret hx hb hr (fun t9 ht9 _ => ⟨some (.long x), w9, rfl, ⟨x, rfl, hR9⟩, hw9, by rw [ht9]; exact hP, hS.F ht9⟩) hS.2.2 dL_by_69
set_option maxHeartbeats 4000000 in
set_option maxRecDepth 100000 in
theorem wz_by_lengthOf (l : Launch) (D : va_G) (cI cJ : ClassId) (q : Nat → Nat) (n : Nat) (mk lt tg : Nat → Int32) (pa an la kn : Nat → Int64) (fb : Int32) (fh nb te wt bh : Nat → Int32) (x0 x1 : Int32) {rm : Room} (hrm : rm.cells = 0 ∧ rm.slots = 0 ∧ rm.frames + 1 ≤ 9 ∧ 8 + (2 + 11) + rm.locals ≤ 150) {Rq : Option Value → va_W → Prop} (hM : eg_MW D (tyL cI cJ) l yX0_lengthOf wsX0_lengthOf rm 0 0 [.ref (q 0), .int x0] (wX q cI cJ (nI n) mk lt tg pa an la kn fb fh nb te wt bh) Rq) (hRq : ∀ v w1, Rq v w1 → ∃ x : Int32, v = some (.int x)) : eg_MLm D (tyL cI cJ) l yL_by wsL_by (rmT 0) [.ref (q 0), .int (nI 1), .int x0, .int x1] (wX q cI cJ (nI n) mk lt tg pa an la kn fb fh nb te wt bh) (fun r w1 => ∃ x : Int32, r = some (.long x.toInt64) ∧ Rq (some (.int x)) w1) 0 0 := by
  refine eg_ofWH (cc := cL_by) (maxL := 5) (ret := (some .long)) (hh := [(0, 69, 70, 14)]) (by decide) rfl ?_
  intro p e s m args below meth c s₁ B hml htb hv
  obtain ⟨rfl, hP, hK, hD0, hT⟩ := hv
  have hx := B.exec
  have hb := B.bytes
  have hr := B.returns
  have hts := atoms_spec (ws := wsL_by) B.pre
  have hown : s.vm.findClass RL = some m.cls := findClass_of_methodNamed B.named
  have hlocks := B.notSynchronized
  have hD := eg_D_of hD0
  have hS : va_S (eg_A (wX q cI cJ (nI n) mk lt tg pa an la kn fb fh nb te wt bh)) s.heap s.heap [] := va_S.rf
  have hl := lv_entry ([.ref (q 0), .int (nI 1), .int x0, .int x1]) (n := 5) (Nat.le_of_ble_eq_true rfl)
  rw [lg_entry_eq]
  generalize (lg_sl ([.ref (q 0), .int (nI 1), .int x0, .int x1]) ++ List.replicate (5 - (lg_sl ([.ref (q 0), .int (nI 1), .int x0, .int x1])).length) Slot.unset).toArray = ls at hl ⊢
  have hl : lv_has ls 5 [(0, .ref (q 0)), (1, .int (nI 1)), (2, .int x0), (3, .int x1)] := hl
  generalize h0H : s.heap = H at hP ⊢
  have hS : va_S (eg_A (wX q cI cJ (nI n) mk lt tg pa an la kn fb fh nb te wt bh)) s.heap H [] := by rw [← h0H]; exact hS
  generalize ([] : List Loc) = locs at hS ⊢
  refine lv_iload_n hx hb dL_by_0 rfl (lv_at hl 1 rfl) ?_
  refine lv_if_ne (tgt := 12) hx hb dL_by_1 (by decide) (fun _ => ?_) (fun h => absurd h (by decide +kernel))
  refine lv_iload_n hx hb dL_by_12 rfl (lv_at hl 1 rfl) ?_
  refine lv_iconst (v := nI 1) hx hb dL_by_13 (by decide +kernel) ?_
  refine lv_icmp_ne (tgt := 26) hx hb dL_by_14 (by decide) (fun h => absurd rfl h) (fun _ => ?_)
  refine lv_aload_n hx hb dL_by_17 rfl (lv_at hl 0 rfl) ?_
  refine lv_iload_n hx hb dL_by_18 rfl (lv_at hl 2 rfl) ?_
  refine eg_callWVc (wr := []) (As := [.int x0]) (rest := []) hx hb hml hown hts hK hP hD hS [0, 1, 2, 3, 4, 5, 6, 7, 8, 9, 10, 11, 12] [] rfl rfl (by decide) hM (cwV 1 hts gL_by_X0_lengthOf rfl hrm.1 hrm.2.1 (by decide +kernel) ⟨hrm.2.2.1, hrm.2.2.2⟩) (va_recv hK hP (ci := 0) (q0 := 0) rfl rfl) rfl hl.1 rfl (Nat.le_of_ble_eq_true rfl) dL_by_19 ⟨Nat.le_of_ble_eq_true rfl, Nat.le_of_ble_eq_true rfl⟩ (fun v9 w9 H locs hR9 hw9 hP hD hS => ?_)
  obtain ⟨x, rfl⟩ := hRq _ _ hR9
  refine lv_i2l (v := x.toInt64) hx hb dL_by_22 rfl ?_
  refine lv_goto (tgt := 69) hx hb dL_by_23 (by decide) ?_
  exact W.lret hx hb hr (fun t9 ht9 _ => ⟨some (.long x.toInt64), w9, rfl, ⟨x, rfl, hR9⟩, hw9, by rw [ht9]; exact hP, hS.F ht9⟩) hS.2.2 dL_by_69
set_option maxHeartbeats 4000000 in
set_option maxRecDepth 100000 in
theorem wz_by_isLater (l : Launch) (D : va_G) (cI cJ : ClassId) (q : Nat → Nat) (n : Nat) (mk lt tg : Nat → Int32) (pa an la kn : Nat → Int64) (fb : Int32) (fh nb te wt bh : Nat → Int32) (x0 x1 : Int32) {rm : Room} (hrm : rm.cells = 0 ∧ rm.slots = 0 ∧ rm.frames + 1 ≤ 9 ∧ 8 + (3 + 11) + rm.locals ≤ 150) {Rq : Option Value → va_W → Prop} (hM : eg_MW D (tyL cI cJ) l yX0_isLater wsX0_isLater rm 0 0 [.ref (q 0), .int x0, .int x1] (wX q cI cJ (nI n) mk lt tg pa an la kn fb fh nb te wt bh) Rq) (hRq : ∀ v w1, Rq v w1 → ∃ x : Bool, v = some (.int (eb x))) : eg_MLm D (tyL cI cJ) l yL_by wsL_by (rmT 0) [.ref (q 0), .int (nI 3), .int x0, .int x1] (wX q cI cJ (nI n) mk lt tg pa an la kn fb fh nb te wt bh) (fun r w1 => ∃ x : Bool, r = some (.long (if x = true then 1 else 0)) ∧ Rq (some (.int (eb x))) w1) 0 0 := by
  refine eg_ofWH (cc := cL_by) (maxL := 5) (ret := (some .long)) (hh := [(0, 69, 70, 14)]) (by decide) rfl ?_
  intro p e s m args below meth c s₁ B hml htb hv
  obtain ⟨rfl, hP, hK, hD0, hT⟩ := hv
  have hx := B.exec
  have hb := B.bytes
  have hr := B.returns
  have hts := atoms_spec (ws := wsL_by) B.pre
  have hown : s.vm.findClass RL = some m.cls := findClass_of_methodNamed B.named
  have hlocks := B.notSynchronized
  have hD := eg_D_of hD0
  have hS : va_S (eg_A (wX q cI cJ (nI n) mk lt tg pa an la kn fb fh nb te wt bh)) s.heap s.heap [] := va_S.rf
  have hl := lv_entry ([.ref (q 0), .int (nI 3), .int x0, .int x1]) (n := 5) (Nat.le_of_ble_eq_true rfl)
  rw [lg_entry_eq]
  generalize (lg_sl ([.ref (q 0), .int (nI 3), .int x0, .int x1]) ++ List.replicate (5 - (lg_sl ([.ref (q 0), .int (nI 3), .int x0, .int x1])).length) Slot.unset).toArray = ls at hl ⊢
  have hl : lv_has ls 5 [(0, .ref (q 0)), (1, .int (nI 3)), (2, .int x0), (3, .int x1)] := hl
  generalize h0H : s.heap = H at hP ⊢
  have hS : va_S (eg_A (wX q cI cJ (nI n) mk lt tg pa an la kn fb fh nb te wt bh)) s.heap H [] := by rw [← h0H]; exact hS
  generalize ([] : List Loc) = locs at hS ⊢
  refine lv_iload_n hx hb dL_by_0 rfl (lv_at hl 1 rfl) ?_
  refine lv_if_ne (tgt := 12) hx hb dL_by_1 (by decide) (fun _ => ?_) (fun h => absurd h (by decide +kernel))
  refine lv_iload_n hx hb dL_by_12 rfl (lv_at hl 1 rfl) ?_
  refine lv_iconst (v := nI 1) hx hb dL_by_13 (by decide +kernel) ?_
  refine lv_icmp_ne (tgt := 26) hx hb dL_by_14 (by decide) (fun _ => ?_) (fun h => absurd h (by decide +kernel))
  refine lv_iload_n hx hb dL_by_26 rfl (lv_at hl 1 rfl) ?_
  refine lv_iconst (v := nI 2) hx hb dL_by_27 (by decide +kernel) ?_
  refine lv_icmp_ne (tgt := 41) hx hb dL_by_28 (by decide) (fun _ => ?_) (fun h => absurd h (by decide +kernel))
  refine lv_iload_n hx hb dL_by_41 rfl (lv_at hl 1 rfl) ?_
  refine lv_iconst (v := nI 3) hx hb dL_by_42 (by decide +kernel) ?_
  refine lv_icmp_ne (tgt := 63) hx hb dL_by_43 (by decide) (fun h => absurd rfl h) (fun _ => ?_)
  refine lv_aload_n hx hb dL_by_46 rfl (lv_at hl 0 rfl) ?_
  refine lv_iload_n hx hb dL_by_47 rfl (lv_at hl 2 rfl) ?_
  refine lv_iload_n hx hb dL_by_48 rfl (lv_at hl 3 rfl) ?_
  refine eg_callWVc (wr := []) (As := [.int x0, .int x1]) (rest := []) hx hb hml hown hts hK hP hD hS [0, 1, 2, 3, 4, 5, 6, 7, 8, 9, 10, 11, 12] [] rfl rfl (by decide) hM (cwV 2 hts gL_by_X0_isLater rfl hrm.1 hrm.2.1 (by decide +kernel) ⟨hrm.2.2.1, hrm.2.2.2⟩) (va_recv hK hP (ci := 0) (q0 := 0) rfl rfl) rfl hl.1 rfl (Nat.le_of_ble_eq_true rfl) dL_by_49 ⟨Nat.le_of_ble_eq_true rfl, Nat.le_of_ble_eq_true rfl⟩ (fun v9 w9 H locs hR9 hw9 hP hD hS => ?_)
  obtain ⟨x, rfl⟩ := hRq _ _ hR9
  refine eg_ifeq_b (tgt := 59) hx hb dL_by_52 (by decide) (fun c9 => ?_) (fun c9 => ?_)
  · refine lv_lconst (v := 0) hx hb dL_by_59 (by decide) ?_
    refine lv_goto (tgt := 69) hx hb dL_by_60 (by decide) ?_
    exact W.lret hx hb hr (fun t9 ht9 _ => ⟨some (.long 0), w9, rfl, ⟨x, by rw [c9]; rfl, hR9⟩, hw9, by rw [ht9]; exact hP, hS.F ht9⟩) hS.2.2 dL_by_69
  · refine lv_lconst (v := 1) hx hb dL_by_55 (by decide) ?_
    refine lv_goto (tgt := 69) hx hb dL_by_56 (by decide) ?_
    exact W.lret hx hb hr (fun t9 ht9 _ => ⟨some (.long 1), w9, rfl, ⟨x, by rw [c9]; rfl, hR9⟩, hw9, by rw [ht9]; exact hP, hS.F ht9⟩) hS.2.2 dL_by_69
set_option maxHeartbeats 4000000 in
set_option maxRecDepth 100000 in
theorem wz_by_authorOf (l : Launch) (D : va_G) (cI cJ : ClassId) (q : Nat → Nat) (n : Nat) (mk lt tg : Nat → Int32) (pa an la kn : Nat → Int64) (fb : Int32) (fh nb te wt bh : Nat → Int32) (x0 x1 : Int32) {rm : Room} (hrm : rm.cells = 0 ∧ rm.slots = 0 ∧ rm.frames + 1 ≤ 9 ∧ 8 + (2 + 11) + rm.locals ≤ 150) {Rq : Option Value → va_W → Prop} (hM : eg_MW D (tyL cI cJ) l yX0_authorOf wsX0_authorOf rm 0 0 [.ref (q 0), .int x0] (wX q cI cJ (nI n) mk lt tg pa an la kn fb fh nb te wt bh) Rq) (hRq : ∀ v w1, Rq v w1 → ∃ x : Int32, v = some (.int x)) : eg_MLm D (tyL cI cJ) l yL_by wsL_by (rmT 0) [.ref (q 0), .int (nI 4), .int x0, .int x1] (wX q cI cJ (nI n) mk lt tg pa an la kn fb fh nb te wt bh) (fun r w1 => ∃ x : Int32, r = some (.long x.toInt64) ∧ Rq (some (.int x)) w1) 0 0 := by
  refine eg_ofWH (cc := cL_by) (maxL := 5) (ret := (some .long)) (hh := [(0, 69, 70, 14)]) (by decide) rfl ?_
  intro p e s m args below meth c s₁ B hml htb hv
  obtain ⟨rfl, hP, hK, hD0, hT⟩ := hv
  have hx := B.exec
  have hb := B.bytes
  have hr := B.returns
  have hts := atoms_spec (ws := wsL_by) B.pre
  have hown : s.vm.findClass RL = some m.cls := findClass_of_methodNamed B.named
  have hlocks := B.notSynchronized
  have hD := eg_D_of hD0
  have hS : va_S (eg_A (wX q cI cJ (nI n) mk lt tg pa an la kn fb fh nb te wt bh)) s.heap s.heap [] := va_S.rf
  have hl := lv_entry ([.ref (q 0), .int (nI 4), .int x0, .int x1]) (n := 5) (Nat.le_of_ble_eq_true rfl)
  rw [lg_entry_eq]
  generalize (lg_sl ([.ref (q 0), .int (nI 4), .int x0, .int x1]) ++ List.replicate (5 - (lg_sl ([.ref (q 0), .int (nI 4), .int x0, .int x1])).length) Slot.unset).toArray = ls at hl ⊢
  have hl : lv_has ls 5 [(0, .ref (q 0)), (1, .int (nI 4)), (2, .int x0), (3, .int x1)] := hl
  generalize h0H : s.heap = H at hP ⊢
  have hS : va_S (eg_A (wX q cI cJ (nI n) mk lt tg pa an la kn fb fh nb te wt bh)) s.heap H [] := by rw [← h0H]; exact hS
  generalize ([] : List Loc) = locs at hS ⊢
  refine lv_iload_n hx hb dL_by_0 rfl (lv_at hl 1 rfl) ?_
  refine lv_if_ne (tgt := 12) hx hb dL_by_1 (by decide) (fun _ => ?_) (fun h => absurd h (by decide +kernel))
  refine lv_iload_n hx hb dL_by_12 rfl (lv_at hl 1 rfl) ?_
  refine lv_iconst (v := nI 1) hx hb dL_by_13 (by decide +kernel) ?_
  refine lv_icmp_ne (tgt := 26) hx hb dL_by_14 (by decide) (fun _ => ?_) (fun h => absurd h (by decide +kernel))
  refine lv_iload_n hx hb dL_by_26 rfl (lv_at hl 1 rfl) ?_
  refine lv_iconst (v := nI 2) hx hb dL_by_27 (by decide +kernel) ?_
  refine lv_icmp_ne (tgt := 41) hx hb dL_by_28 (by decide) (fun _ => ?_) (fun h => absurd h (by decide +kernel))
  refine lv_iload_n hx hb dL_by_41 rfl (lv_at hl 1 rfl) ?_
  refine lv_iconst (v := nI 3) hx hb dL_by_42 (by decide +kernel) ?_
  refine lv_icmp_ne (tgt := 63) hx hb dL_by_43 (by decide) (fun _ => ?_) (fun h => absurd h (by decide +kernel))
  refine lv_aload_n hx hb dL_by_63 rfl (lv_at hl 0 rfl) ?_
  refine lv_iload_n hx hb dL_by_64 rfl (lv_at hl 2 rfl) ?_
  refine eg_callWVc (wr := []) (As := [.int x0]) (rest := []) hx hb hml hown hts hK hP hD hS [0, 1, 2, 3, 4, 5, 6, 7, 8, 9, 10, 11, 12] [] rfl rfl (by decide) hM (cwV 1 hts gL_by_X0_authorOf rfl hrm.1 hrm.2.1 (by decide +kernel) ⟨hrm.2.2.1, hrm.2.2.2⟩) (va_recv hK hP (ci := 0) (q0 := 0) rfl rfl) rfl hl.1 rfl (Nat.le_of_ble_eq_true rfl) dL_by_65 ⟨Nat.le_of_ble_eq_true rfl, Nat.le_of_ble_eq_true rfl⟩ (fun v9 w9 H locs hR9 hw9 hP hD hS => ?_)
  obtain ⟨x, rfl⟩ := hRq _ _ hR9
  refine lv_i2l (v := x.toInt64) hx hb dL_by_68 rfl ?_
  exact W.lret hx hb hr (fun t9 ht9 _ => ⟨some (.long x.toInt64), w9, rfl, ⟨x, rfl, hR9⟩, hw9, by rw [ht9]; exact hP, hS.F ht9⟩) hS.2.2 dL_by_69
