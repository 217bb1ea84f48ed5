-- the law's static calls (by specL.py)
set_option maxHeartbeats 4000000 in
set_option maxRecDepth 100000 in
theorem wl_does_learnEvent (l : Launch) (D : va_G) (cI cJ : ClassId) (q : Nat → Nat) (n : Nat) (mk lt tg : Nat → Int32) (pa an la kn : Nat → Int64) (fb : Int32) (fh nb te wt bh : Nat → Int32) (x0 x1 : Int32) {rm : Room} (hrm : rm.cells = 0 ∧ rm.slots = 0 ∧ rm.frames + 1 ≤ 9 ∧ 8 + (3 + 11) + rm.locals ≤ 150) {Rq : Option Value → va_W → Prop} (hM : eg_MW D (tyL cI cJ) l yX0_learnEvent wsX0_learnEvent rm 0 0 [.ref (q 0), .int x0, .int x1] (wX q cI cJ (nI n) mk lt tg pa an la kn fb fh nb te wt bh) Rq) (hRq : ∀ v w1, Rq v w1 → ∃ x : Int32, v = some (.int x)) : eg_ML D (tyL cI cJ) l yL_does wsL_does rmL [.ref (q 0), .int (nI 2), .int x0, .int x1] (wX q cI cJ (nI n) mk lt tg pa an la kn fb fh nb te wt bh) (fun r w1 => ∃ x : Int32, r = some (.int x) ∧ Rq (some (.int x)) w1) := by
  refine eg_ofWH (cc := cL_does) (maxL := 5) (ret := (some .int)) (hh := [(0, 33, 34, 14), (0, 33, 39, 18)]) (by decide) rfl ?_
  intro p e s m args below meth c s₁ B hml htb hv
  obtain ⟨rfl, hP, hK, hD0, hT⟩ := hv
  have hx := B.exec
  have hb := B.bytes
  have hr := B.returns
  have hts := atoms_spec (ws := wsL_does) B.pre
  have hown : s.vm.findClass RL = some m.cls := findClass_of_methodNamed B.named
  have hlocks := B.notSynchronized
  have hD := eg_D_of hD0
  have hS : va_S (eg_A (wX q cI cJ (nI n) mk lt tg pa an la kn fb fh nb te wt bh)) s.heap s.heap [] := va_S.rf
  have hl := lv_entry ([.ref (q 0), .int (nI 2), .int x0, .int x1]) (n := 5) (Nat.le_of_ble_eq_true rfl)
  rw [lg_entry_eq]
  generalize (lg_sl ([.ref (q 0), .int (nI 2), .int x0, .int x1]) ++ List.replicate (5 - (lg_sl ([.ref (q 0), .int (nI 2), .int x0, .int x1])).length) Slot.unset).toArray = ls at hl ⊢
  have hl : lv_has ls 5 [(0, .ref (q 0)), (1, .int (nI 2)), (2, .int x0), (3, .int x1)] := hl
  generalize h0H : s.heap = H at hP ⊢
  have hS : va_S (eg_A (wX q cI cJ (nI n) mk lt tg pa an la kn fb fh nb te wt bh)) s.heap H [] := by rw [← h0H]; exact hS
  generalize ([] : List Loc) = locs at hS ⊢
  refine lv_iload_n hx hb dL_does_0 rfl (lv_at hl 1 rfl) ?_
  refine lv_if_ne (tgt := 13) hx hb dL_does_1 (by decide) (fun _ => ?_) (fun h => absurd h (by decide +kernel))
  refine lv_iload_n hx hb dL_does_13 rfl (lv_at hl 1 rfl) ?_
  refine lv_iconst (v := nI 1) hx hb dL_does_14 (by decide +kernel) ?_
  refine lv_icmp_ne (tgt := 27) hx hb dL_does_15 (by decide) (fun _ => ?_) (fun h => absurd h (by decide +kernel))
  refine lv_aload_n hx hb dL_does_27 rfl (lv_at hl 0 rfl) ?_
  refine lv_iload_n hx hb dL_does_28 rfl (lv_at hl 2 rfl) ?_
  refine lv_iload_n hx hb dL_does_29 rfl (lv_at hl 3 rfl) ?_
  refine eg_callWVc (wr := []) (As := [.int x0, .int x1]) (rest := []) hx hb hml hown hts hK hP hD hS [0, 1, 2, 3, 4, 5, 6, 7, 8, 9, 10, 11, 12] [] rfl rfl (by decide) hM (cwV 2 hts gL_does_X0_learnEvent rfl hrm.1 hrm.2.1 (by decide +kernel) ⟨hrm.2.2.1, hrm.2.2.2⟩) (va_recv hK hP (ci := 0) (q0 := 0) rfl rfl) rfl hl.1 rfl (Nat.le_of_ble_eq_true rfl) dL_does_30 ⟨Nat.le_of_ble_eq_true rfl, Nat.le_of_ble_eq_true rfl⟩ (fun v9 w9 H locs hR9 hw9 hP hD hS => ?_)
  obtain ⟨x, rfl⟩ := hRq _ _ hR9
  refine W.widen (k := 1) (n := 6) (by omega) (by omega) ?_
  exact W.iret hx hb hr (fun t9 ht9 _ => ⟨some (.int x), w9, rfl, ⟨x, rfl, hR9⟩, hw9, by rw [ht9]; exact hP, hS.F ht9⟩) hS.2.2 dL_does_33
set_option maxHeartbeats 4000000 in
set_option maxRecDepth 100000 in
theorem wl_does_learnEvent_b (l : Launch) (D : va_G) (cI cJ : ClassId) (q : Nat → Nat) (n : Nat) (mk lt tg : Nat → Int32) (pa an la kn : Nat → Int64) (fb : Int32) (fh nb te wt bh : Nat → Int32) (x0 x1 : Int32) {rm : Room} (hrm : rm.cells = 1 ∧ rm.slots = 6 ∧ rm.frames + 1 ≤ 9 ∧ 8 + (3 + 11) + rm.locals ≤ 150) {Rx : va_W → Prop} (hM : eg_MX D (tyL cI cJ) l yX0_learnEvent wsX0_learnEvent rm [.ref (q 0), .int x0, .int x1] (wX q cI cJ (nI n) mk lt tg pa an la kn fb fh nb te wt bh) "java/lang/IndexOutOfBoundsException" Rx) : eg_MLg D (tyL cI cJ) l yL_does wsL_does rmL [.ref (q 0), .int (nI 2), .int x0, .int x1] (wX q cI cJ (nI n) mk lt tg pa an la kn fb fh nb te wt bh) (fun r w1 => r = some (.int (-8)) ∧ Rx w1) 1 := by
  refine eg_ofWH (cc := cL_does) (maxL := 5) (ret := (some .int)) (hh := [(0, 33, 34, 14), (0, 33, 39, 18)]) (by decide) rfl ?_
  intro p e s m args below meth c s₁ B hml htb hv
  obtain ⟨rfl, hP, hK, hD0, hT⟩ := hv
  have hx := B.exec
  have hb := B.bytes
  have hr := B.returns
  have hts := atoms_spec (ws := wsL_does) B.pre
  have hown : s.vm.findClass RL = some m.cls := findClass_of_methodNamed B.named
  have hlocks := B.notSynchronized
  have hD := eg_D_of hD0
  have hS : va_S (eg_A (wX q cI cJ (nI n) mk lt tg pa an la kn fb fh nb te wt bh)) s.heap s.heap [] := va_S.rf
  have hl := lv_entry ([.ref (q 0), .int (nI 2), .int x0, .int x1]) (n := 5) (Nat.le_of_ble_eq_true rfl)
  rw [lg_entry_eq]
  generalize (lg_sl ([.ref (q 0), .int (nI 2), .int x0, .int x1]) ++ List.replicate (5 - (lg_sl ([.ref (q 0), .int (nI 2), .int x0, .int x1])).length) Slot.unset).toArray = ls at hl ⊢
  have hl : lv_has ls 5 [(0, .ref (q 0)), (1, .int (nI 2)), (2, .int x0), (3, .int x1)] := hl
  generalize h0H : s.heap = H at hP ⊢
  have hS : va_S (eg_A (wX q cI cJ (nI n) mk lt tg pa an la kn fb fh nb te wt bh)) s.heap H [] := by rw [← h0H]; exact hS
  generalize ([] : List Loc) = locs at hS ⊢
  refine lv_iload_n hx hb dL_does_0 rfl (lv_at hl 1 rfl) ?_
  refine lv_if_ne (tgt := 13) hx hb dL_does_1 (by decide) (fun _ => ?_) (fun h => absurd h (by decide +kernel))
  refine lv_iload_n hx hb dL_does_13 rfl (lv_at hl 1 rfl) ?_
  refine lv_iconst (v := nI 1) hx hb dL_does_14 (by decide +kernel) ?_
  refine lv_icmp_ne (tgt := 27) hx hb dL_does_15 (by decide) (fun _ => ?_) (fun h => absurd h (by decide +kernel))
  refine lv_aload_n hx hb dL_does_27 rfl (lv_at hl 0 rfl) ?_
  refine lv_iload_n hx hb dL_does_28 rfl (lv_at hl 2 rfl) ?_
  refine lv_iload_n hx hb dL_does_29 rfl (lv_at hl 3 rfl) ?_
  refine eg_callX (wr := []) (As := [.int x0, .int x1]) (rest := []) hx hb hml hown hts hK hP hD hS hT [0, 1, 2, 3, 4, 5, 6, 7, 8, 9, 10, 11, 12] [] rfl rfl (by decide) hM (cwV 2 hts gL_does_X0_learnEvent rfl hrm.1 hrm.2.1 (by decide +kernel) ⟨hrm.2.2.1, hrm.2.2.2⟩) (va_recv hK hP (ci := 0) (q0 := 0) rfl rfl) rfl hl.1 rfl (Nat.le_of_ble_eq_true rfl) dL_does_30 ⟨Nat.le_of_ble_eq_true rfl, Nat.le_of_ble_eq_true rfl⟩ (fun w9 H1 locs q9 ce hg9 hR9 hw9 hP hD hS hc1 hc2 hc3 => ?_)
  refine vx_catch (own := RL) (name := "java/lang/IndexOutOfBoundsException") hown [] ⟨0, 33, 34, 14⟩ [⟨0, 33, 39, 18⟩] (htb.trans rfl) (fun z hz => absurd hz List.not_mem_nil) (by decide) (by decide) (hts (.classLink RL 14 "java/lang/IndexOutOfBoundsException") (by decide +kernel)) (va_Nw.use rfl hT.1.2.2.2.2.1) hc1 hc2 hc3 ?_
  refine lv_astore (lv' := [(4, .ref q9), (0, .ref (q 0)), (1, .int (nI 2)), (2, .int x0), (3, .int x1)]) hx hb dL_does_34 hl (by decide) rfl (fun ls hl => ?_)
  refine lv_bipush (v := -8) hx hb dL_does_36 (by decide +kernel) ?_
  exact W.iret hx hb hr (fun t9 ht9 _ => ⟨⟨some (.int (-8)), w9, rfl, ⟨rfl, hR9⟩, hw9, by rw [ht9]; exact hP, hS.F ht9⟩, by rw [ht9, h0H]; exact hg9⟩) hS.2.2 dL_does_38
set_option maxHeartbeats 4000000 in
set_option maxRecDepth 100000 in
theorem wl_does_learn (l : Launch) (D : va_G) (cI cJ : ClassId) (q : Nat → Nat) (n : Nat) (mk lt tg : Nat → Int32) (pa an la kn : Nat → Int64) (fb : Int32) (fh nb te wt bh : Nat → Int32) (x0 x1 : Int32) {rm : Room} (hrm : rm.cells = 0 ∧ rm.slots = 0 ∧ rm.frames + 1 ≤ 9 ∧ 8 + (3 + 11) + rm.locals ≤ 150) {Rq : Option Value → va_W → Prop} (hM : eg_MW D (tyL cI cJ) l yX0_learn wsX0_learn rm 0 0 [.ref (q 0), .int x0, .int x1] (wX q cI cJ (nI n) mk lt tg pa an la kn fb fh nb te wt bh) Rq) (hRq : ∀ v w1, Rq v w1 → ∃ x : Int32, v = some (.int x)) : eg_ML D (tyL cI cJ) l yL_does wsL_does rmL [.ref (q 0), .int (nI 1), .int x0, .int x1] (wX q cI cJ (nI n) mk lt tg pa an la kn fb fh nb te wt bh) (fun r w1 => ∃ x : Int32, r = some (.int x) ∧ Rq (some (.int x)) w1) := by
  refine eg_ofWH (cc := cL_does) (maxL := 5) (ret := (some .int)) (hh := [(0, 33, 34, 14), (0, 33, 39, 18)]) (by decide) rfl ?_
  intro p e s m args below meth c s₁ B hml htb hv
  obtain ⟨rfl, hP, hK, hD0, hT⟩ := hv
  have hx := B.exec
  have hb := B.bytes
  have hr := B.returns
  have hts := atoms_spec (ws := wsL_does) B.pre
  have hown : s.vm.findClass RL = some m.cls := findClass_of_methodNamed B.named
  have hlocks := B.notSynchronized
  have hD := eg_D_of hD0
  have hS : va_S (eg_A (wX q cI cJ (nI n) mk lt tg pa an la kn fb fh nb te wt bh)) s.heap s.heap [] := va_S.rf
  have hl := lv_entry ([.ref (q 0), .int (nI 1), .int x0, .int x1]) (n := 5) (Nat.le_of_ble_eq_true rfl)
  rw [lg_entry_eq]
  generalize (lg_sl ([.ref (q 0), .int (nI 1), .int x0, .int x1]) ++ List.replicate (5 - (lg_sl ([.ref (q 0), .int (nI 1), .int x0, .int x1])).length) Slot.unset).toArray = ls at hl ⊢
  have hl : lv_has ls 5 [(0, .ref (q 0)), (1, .int (nI 1)), (2, .int x0), (3, .int x1)] := hl
  generalize h0H : s.heap = H at hP ⊢
  have hS : va_S (eg_A (wX q cI cJ (nI n) mk lt tg pa an la kn fb fh nb te wt bh)) s.heap H [] := by rw [← h0H]; exact hS
  generalize ([] : List Loc) = locs at hS ⊢
  refine lv_iload_n hx hb dL_does_0 rfl (lv_at hl 1 rfl) ?_
  refine lv_if_ne (tgt := 13) hx hb dL_does_1 (by decide) (fun _ => ?_) (fun h => absurd h (by decide +kernel))
  refine lv_iload_n hx hb dL_does_13 rfl (lv_at hl 1 rfl) ?_
  refine lv_iconst (v := nI 1) hx hb dL_does_14 (by decide +kernel) ?_
  refine lv_icmp_ne (tgt := 27) hx hb dL_does_15 (by decide) (fun h => absurd rfl h) (fun _ => ?_)
  refine lv_aload_n hx hb dL_does_18 rfl (lv_at hl 0 rfl) ?_
  refine lv_iload_n hx hb dL_does_19 rfl (lv_at hl 2 rfl) ?_
  refine lv_iload_n hx hb dL_does_20 rfl (lv_at hl 3 rfl) ?_
  refine eg_callWVc (wr := []) (As := [.int x0, .int x1]) (rest := []) hx hb hml hown hts hK hP hD hS [0, 1, 2, 3, 4, 5, 6, 7, 8, 9, 10, 11, 12] [] rfl rfl (by decide) hM (cwV 2 hts gL_does_X0_learn rfl hrm.1 hrm.2.1 (by decide +kernel) ⟨hrm.2.2.1, hrm.2.2.2⟩) (va_recv hK hP (ci := 0) (q0 := 0) rfl rfl) rfl hl.1 rfl (Nat.le_of_ble_eq_true rfl) dL_does_21 ⟨Nat.le_of_ble_eq_true rfl, Nat.le_of_ble_eq_true rfl⟩ (fun v9 w9 H locs hR9 hw9 hP hD hS => ?_)
  obtain ⟨x, rfl⟩ := hRq _ _ hR9
  refine lv_goto (tgt := 33) hx hb dL_does_24 (by decide) ?_
  refine W.widen (k := 1) (n := 6) (by omega) (by omega) ?_
  exact W.iret hx hb hr (fun t9 ht9 _ => ⟨some (.int x), w9, rfl, ⟨x, rfl, hR9⟩, hw9, by rw [ht9]; exact hP, hS.F ht9⟩) hS.2.2 dL_does_33
set_option maxHeartbeats 4000000 in
set_option maxRecDepth 100000 in
theorem wl_does_learn_b (l : Launch) (D : va_G) (cI cJ : ClassId) (q : Nat → Nat) (n : Nat) (mk lt tg : Nat → Int32) (pa an la kn : Nat → Int64) (fb : Int32) (fh nb te wt bh : Nat → Int32) (x0 x1 : Int32) {rm : Room} (hrm : rm.cells = 1 ∧ rm.slots = 6 ∧ rm.frames + 1 ≤ 9 ∧ 8 + (3 + 11) + rm.locals ≤ 150) {Rx : va_W → Prop} (hM : eg_MX D (tyL cI cJ) l yX0_learn wsX0_learn rm [.ref (q 0), .int x0, .int x1] (wX q cI cJ (nI n) mk lt tg pa an la kn fb fh nb te wt bh) "java/lang/IndexOutOfBoundsException" Rx) : eg_MLg D (tyL cI cJ) l yL_does wsL_does rmL [.ref (q 0), .int (nI 1), .int x0, .int x1] (wX q cI cJ (nI n) mk lt tg pa an la kn fb fh nb te wt bh) (fun r w1 => r = some (.int (-8)) ∧ Rx w1) 1 := by
  refine eg_ofWH (cc := cL_does) (maxL := 5) (ret := (some .int)) (hh := [(0, 33, 34, 14), (0, 33, 39, 18)]) (by decide) rfl ?_
  intro p e s m args below meth c s₁ B hml htb hv
  obtain ⟨rfl, hP, hK, hD0, hT⟩ := hv
  have hx := B.exec
  have hb := B.bytes
  have hr := B.returns
  have hts := atoms_spec (ws := wsL_does) B.pre
  have hown : s.vm.findClass RL = some m.cls := findClass_of_methodNamed B.named
  have hlocks := B.notSynchronized
  have hD := eg_D_of hD0
  have hS : va_S (eg_A (wX q cI cJ (nI n) mk lt tg pa an la kn fb fh nb te wt bh)) s.heap s.heap [] := va_S.rf
  have hl := lv_entry ([.ref (q 0), .int (nI 1), .int x0, .int x1]) (n := 5) (Nat.le_of_ble_eq_true rfl)
  rw [lg_entry_eq]
  generalize (lg_sl ([.ref (q 0), .int (nI 1), .int x0, .int x1]) ++ List.replicate (5 - (lg_sl ([.ref (q 0), .int (nI 1), .int x0, .int x1])).length) Slot.unset).toArray = ls at hl ⊢
  have hl : lv_has ls 5 [(0, .ref (q 0)), (1, .int (nI 1)), (2, .int x0), (3, .int x1)] := hl
  generalize h0H : s.heap = H at hP ⊢
  have hS : va_S (eg_A (wX q cI cJ (nI n) mk lt tg pa an la kn fb fh nb te wt bh)) s.heap H [] := by rw [← h0H]; exact hS
  generalize ([] : List Loc) = locs at hS ⊢
  refine lv_iload_n hx hb dL_does_0 rfl (lv_at hl 1 rfl) ?_
  refine lv_if_ne (tgt := 13) hx hb dL_does_1 (by decide) (fun _ => ?_) (fun h => absurd h (by decide +kernel))
  refine lv_iload_n hx hb dL_does_13 rfl (lv_at hl 1 rfl) ?_
  refine lv_iconst (v := nI 1) hx hb dL_does_14 (by decide +kernel) ?_
  refine lv_icmp_ne (tgt := 27) hx hb dL_does_15 (by decide) (fun h => absurd rfl h) (fun _ => ?_)
  refine lv_aload_n hx hb dL_does_18 rfl (lv_at hl 0 rfl) ?_
  refine lv_iload_n hx hb dL_does_19 rfl (lv_at hl 2 rfl) ?_
  refine lv_iload_n hx hb dL_does_20 rfl (lv_at hl 3 rfl) ?_
  refine eg_callX (wr := []) (As := [.int x0, .int x1]) (rest := []) hx hb hml hown hts hK hP hD hS hT [0, 1, 2, 3, 4, 5, 6, 7, 8, 9, 10, 11, 12] [] rfl rfl (by decide) hM (cwV 2 hts gL_does_X0_learn rfl hrm.1 hrm.2.1 (by decide +kernel) ⟨hrm.2.2.1, hrm.2.2.2⟩) (va_recv hK hP (ci := 0) (q0 := 0) rfl rfl) rfl hl.1 rfl (Nat.le_of_ble_eq_true rfl) dL_does_21 ⟨Nat.le_of_ble_eq_true rfl, Nat.le_of_ble_eq_true rfl⟩ (fun w9 H1 locs q9 ce hg9 hR9 hw9 hP hD hS hc1 hc2 hc3 => ?_)
  refine vx_catch (own := RL) (name := "java/lang/IndexOutOfBoundsException") hown [] ⟨0, 33, 34, 14⟩ [⟨0, 33, 39, 18⟩] (htb.trans rfl) (fun z hz => absurd hz List.not_mem_nil) (by decide) (by decide) (hts (.classLink RL 14 "java/lang/IndexOutOfBoundsException") (by decide +kernel)) (va_Nw.use rfl hT.1.2.2.2.2.1) hc1 hc2 hc3 ?_
  refine lv_astore (lv' := [(4, .ref q9), (0, .ref (q 0)), (1, .int (nI 1)), (2, .int x0), (3, .int x1)]) hx hb dL_does_34 hl (by decide) rfl (fun ls hl => ?_)
  refine lv_bipush (v := -8) hx hb dL_does_36 (by decide +kernel) ?_
  exact W.iret hx hb hr (fun t9 ht9 _ => ⟨⟨some (.int (-8)), w9, rfl, ⟨rfl, hR9⟩, hw9, by rw [ht9]; exact hP, hS.F ht9⟩, by rw [ht9, h0H]; exact hg9⟩) hS.2.2 dL_does_38
set_option maxHeartbeats 4000000 in
set_option maxRecDepth 100000 in
theorem wl_does_delete (l : Launch) (D : va_G) (cI cJ : ClassId) (q : Nat → Nat) (n : Nat) (mk lt tg : Nat → Int32) (pa an la kn : Nat → Int64) (fb : Int32) (fh nb te wt bh : Nat → Int32) (x0 x1 : Int32) {rm : Room} (hrm : rm.cells = 0 ∧ rm.slots = 0 ∧ rm.frames + 1 ≤ 9 ∧ 8 + (4 + 11) + rm.locals ≤ 150) {Rq : Option Value → va_W → Prop} (hM : eg_MW D (tyL cI cJ) l yX0_delete wsX0_delete rm 0 0 [.ref (q 0), .int x0, .int x1] (wX q cI cJ (nI n) mk lt tg pa an la kn fb fh nb te wt bh) Rq) (hRq : ∀ v w1, Rq v w1 → ∃ x : Int32, v = some (.int x)) : eg_ML D (tyL cI cJ) l yL_does wsL_does rmL [.ref (q 0), .int (nI 0), .int x0, .int x1] (wX q cI cJ (nI n) mk lt tg pa an la kn fb fh nb te wt bh) (fun r w1 => ∃ x : Int32, r = some (.int x) ∧ Rq (some (.int x)) w1) := by
  refine eg_ofWH (cc := cL_does) (maxL := 5) (ret := (some .int)) (hh := [(0, 33, 34, 14), (0, 33, 39, 18)]) (by decide) rfl ?_
  intro p e s m args below meth c s₁ B hml htb hv
  obtain ⟨rfl, hP, hK, hD0, hT⟩ := hv
  have hx := B.exec
  have hb := B.bytes
  have hr := B.returns
  have hts := atoms_spec (ws := wsL_does) B.pre
  have hown : s.vm.findClass RL = some m.cls := findClass_of_methodNamed B.named
  have hlocks := B.notSynchronized
  have hD := eg_D_of hD0
  have hS : va_S (eg_A (wX q cI cJ (nI n) mk lt tg pa an la kn fb fh nb te wt bh)) s.heap s.heap [] := va_S.rf
  have hl := lv_entry ([.ref (q 0), .int (nI 0), .int x0, .int x1]) (n := 5) (Nat.le_of_ble_eq_true rfl)
  rw [lg_entry_eq]
  generalize (lg_sl ([.ref (q 0), .int (nI 0), .int x0, .int x1]) ++ List.replicate (5 - (lg_sl ([.ref (q 0), .int (nI 0), .int x0, .int x1])).length) Slot.unset).toArray = ls at hl ⊢
  have hl : lv_has ls 5 [(0, .ref (q 0)), (1, .int (nI 0)), (2, .int x0), (3, .int x1)] := hl
  generalize h0H : s.heap = H at hP ⊢
  have hS : va_S (eg_A (wX q cI cJ (nI n) mk lt tg pa an la kn fb fh nb te wt bh)) s.heap H [] := by rw [← h0H]; exact hS
  generalize ([] : List Loc) = locs at hS ⊢
  refine lv_iload_n hx hb dL_does_0 rfl (lv_at hl 1 rfl) ?_
  refine lv_if_ne (tgt := 13) hx hb dL_does_1 (by decide) (fun h => absurd nI_0 h) (fun _ => ?_)
  refine lv_aload_n hx hb dL_does_4 rfl (lv_at hl 0 rfl) ?_
  refine lv_iload_n hx hb dL_does_5 rfl (lv_at hl 2 rfl) ?_
  refine lv_iload_n hx hb dL_does_6 rfl (lv_at hl 3 rfl) ?_
  refine eg_callWVc (wr := []) (As := [.int x0, .int x1]) (rest := []) hx hb hml hown hts hK hP hD hS [0, 1, 2, 3, 4, 5, 6, 7, 8, 9, 10, 11, 12] [] rfl rfl (by decide) hM (cwV 2 hts gL_does_X0_delete rfl hrm.1 hrm.2.1 (by decide +kernel) ⟨hrm.2.2.1, hrm.2.2.2⟩) (va_recv hK hP (ci := 0) (q0 := 0) rfl rfl) rfl hl.1 rfl (Nat.le_of_ble_eq_true rfl) dL_does_7 ⟨Nat.le_of_ble_eq_true rfl, Nat.le_of_ble_eq_true rfl⟩ (fun v9 w9 H locs hR9 hw9 hP hD hS => ?_)
  obtain ⟨x, rfl⟩ := hRq _ _ hR9
  refine lv_goto (tgt := 33) hx hb dL_does_10 (by decide) ?_
  refine W.widen (k := 1) (n := 6) (by omega) (by omega) ?_
  exact W.iret hx hb hr (fun t9 ht9 _ => ⟨some (.int x), w9, rfl, ⟨x, rfl, hR9⟩, hw9, by rw [ht9]; exact hP, hS.F ht9⟩) hS.2.2 dL_does_33
set_option maxHeartbeats 4000000 in
set_option maxRecDepth 100000 in
theorem wl_does_delete_b (l : Launch) (D : va_G) (cI cJ : ClassId) (q : Nat → Nat) (n : Nat) (mk lt tg : Nat → Int32) (pa an la kn : Nat → Int64) (fb : Int32) (fh nb te wt bh : Nat → Int32) (x0 x1 : Int32) {rm : Room} (hrm : rm.cells = 1 ∧ rm.slots = 6 ∧ rm.frames + 1 ≤ 9 ∧ 8 + (4 + 11) + rm.locals ≤ 150) {Rx : va_W → Prop} (hM : eg_MX D (tyL cI cJ) l yX0_delete wsX0_delete rm [.ref (q 0), .int x0, .int x1] (wX q cI cJ (nI n) mk lt tg pa an la kn fb fh nb te wt bh) "java/lang/IndexOutOfBoundsException" Rx) : eg_MLg D (tyL cI cJ) l yL_does wsL_does rmL [.ref (q 0), .int (nI 0), .int x0, .int x1] (wX q cI cJ (nI n) mk lt tg pa an la kn fb fh nb te wt bh) (fun r w1 => r = some (.int (-8)) ∧ Rx w1) 1 := by
  refine eg_ofWH (cc := cL_does) (maxL := 5) (ret := (some .int)) (hh := [(0, 33, 34, 14), (0, 33, 39, 18)]) (by decide) rfl ?_
  intro p e s m args below meth c s₁ B hml htb hv
  obtain ⟨rfl, hP, hK, hD0, hT⟩ := hv
  have hx := B.exec
  have hb := B.bytes
  have hr := B.returns
  have hts := atoms_spec (ws := wsL_does) B.pre
  have hown : s.vm.findClass RL = some m.cls := findClass_of_methodNamed B.named
  have hlocks := B.notSynchronized
  have hD := eg_D_of hD0
  have hS : va_S (eg_A (wX q cI cJ (nI n) mk lt tg pa an la kn fb fh nb te wt bh)) s.heap s.heap [] := va_S.rf
  have hl := lv_entry ([.ref (q 0), .int (nI 0), .int x0, .int x1]) (n := 5) (Nat.le_of_ble_eq_true rfl)
  rw [lg_entry_eq]
  generalize (lg_sl ([.ref (q 0), .int (nI 0), .int x0, .int x1]) ++ List.replicate (5 - (lg_sl ([.ref (q 0), .int (nI 0), .int x0, .int x1])).length) Slot.unset).toArray = ls at hl ⊢
  have hl : lv_has ls 5 [(0, .ref (q 0)), (1, .int (nI 0)), (2, .int x0), (3, .int x1)] := hl
  generalize h0H : s.heap = H at hP ⊢
  have hS : va_S (eg_A (wX q cI cJ (nI n) mk lt tg pa an la kn fb fh nb te wt bh)) s.heap H [] := by rw [← h0H]; exact hS
  generalize ([] : List Loc) = locs at hS ⊢
  refine lv_iload_n hx hb dL_does_0 rfl (lv_at hl 1 rfl) ?_
  refine lv_if_ne (tgt := 13) hx hb dL_does_1 (by decide) (fun h => absurd nI_0 h) (fun _ => ?_)
  refine lv_aload_n hx hb dL_does_4 rfl (lv_at hl 0 rfl) ?_
  refine lv_iload_n hx hb dL_does_5 rfl (lv_at hl 2 rfl) ?_
  refine lv_iload_n hx hb dL_does_6 rfl (lv_at hl 3 rfl) ?_
  refine eg_callX (wr := []) (As := [.int x0, .int x1]) (rest := []) hx hb hml hown hts hK hP hD hS hT [0, 1, 2, 3, 4, 5, 6, 7, 8, 9, 10, 11, 12] [] rfl rfl (by decide) hM (cwV 2 hts gL_does_X0_delete rfl hrm.1 hrm.2.1 (by decide +kernel) ⟨hrm.2.2.1, hrm.2.2.2⟩) (va_recv hK hP (ci := 0) (q0 := 0) rfl rfl) rfl hl.1 rfl (Nat.le_of_ble_eq_true rfl) dL_does_7 ⟨Nat.le_of_ble_eq_true rfl, Nat.le_of_ble_eq_true rfl⟩ (fun w9 H1 locs q9 ce hg9 hR9 hw9 hP hD hS hc1 hc2 hc3 => ?_)
  refine vx_catch (own := RL) (name := "java/lang/IndexOutOfBoundsException") hown [] ⟨0, 33, 34, 14⟩ [⟨0, 33, 39, 18⟩] (htb.trans rfl) (fun z hz => absurd hz List.not_mem_nil) (by decide) (by decide) (hts (.classLink RL 14 "java/lang/IndexOutOfBoundsException") (by decide +kernel)) (va_Nw.use rfl hT.1.2.2.2.2.1) hc1 hc2 hc3 ?_
  refine lv_astore (lv' := [(4, .ref q9), (0, .ref (q 0)), (1, .int (nI 0)), (2, .int x0), (3, .int x1)]) hx hb dL_does_34 hl (by decide) rfl (fun ls hl => ?_)
  refine lv_bipush (v := -8) hx hb dL_does_36 (by decide +kernel) ?_
  exact W.iret hx hb hr (fun t9 ht9 _ => ⟨⟨some (.int (-8)), w9, rfl, ⟨rfl, hR9⟩, hw9, by rw [ht9]; exact hP, hS.F ht9⟩, by rw [ht9, h0H]; exact hg9⟩) hS.2.2 dL_does_38
set_option maxHeartbeats 4000000 in
set_option maxRecDepth 100000 in
theorem wl_does_delete_s (l : Launch) (D : va_G) (cI cJ : ClassId) (q : Nat → Nat) (n : Nat) (mk lt tg : Nat → Int32) (pa an la kn : Nat → Int64) (fb : Int32) (fh nb te wt bh : Nat → Int32) (x0 x1 : Int32) {rm : Room} (hrm : rm.cells = 1 ∧ rm.slots = 6 ∧ rm.frames + 1 ≤ 9 ∧ 8 + (4 + 11) + rm.locals ≤ 150) {Rx : va_W → Prop} (hM : eg_MX D (tyL cI cJ) l yX0_delete wsX0_delete rm [.ref (q 0), .int x0, .int x1] (wX q cI cJ (nI n) mk lt tg pa an la kn fb fh nb te wt bh) "java/lang/IllegalStateException" Rx) : eg_MLg D (tyL cI cJ) l yL_does wsL_does rmL [.ref (q 0), .int (nI 0), .int x0, .int x1] (wX q cI cJ (nI n) mk lt tg pa an la kn fb fh nb te wt bh) (fun r w1 => r = some (.int (-8)) ∧ Rx w1) 1 := by
  refine eg_ofWH (cc := cL_does) (maxL := 5) (ret := (some .int)) (hh := [(0, 33, 34, 14), (0, 33, 39, 18)]) (by decide) rfl ?_
  intro p e s m args below meth c s₁ B hml htb hv
  obtain ⟨rfl, hP, hK, hD0, hT⟩ := hv
  have hx := B.exec
  have hb := B.bytes
  have hr := B.returns
  have hts := atoms_spec (ws := wsL_does) B.pre
  have hown : s.vm.findClass RL = some m.cls := findClass_of_methodNamed B.named
  have hlocks := B.notSynchronized
  have hD := eg_D_of hD0
  have hS : va_S (eg_A (wX q cI cJ (nI n) mk lt tg pa an la kn fb fh nb te wt bh)) s.heap s.heap [] := va_S.rf
  have hl := lv_entry ([.ref (q 0), .int (nI 0), .int x0, .int x1]) (n := 5) (Nat.le_of_ble_eq_true rfl)
  rw [lg_entry_eq]
  generalize (lg_sl ([.ref (q 0), .int (nI 0), .int x0, .int x1]) ++ List.replicate (5 - (lg_sl ([.ref (q 0), .int (nI 0), .int x0, .int x1])).length) Slot.unset).toArray = ls at hl ⊢
  have hl : lv_has ls 5 [(0, .ref (q 0)), (1, .int (nI 0)), (2, .int x0), (3, .int x1)] := hl
  generalize h0H : s.heap = H at hP ⊢
  have hS : va_S (eg_A (wX q cI cJ (nI n) mk lt tg pa an la kn fb fh nb te wt bh)) s.heap H [] := by rw [← h0H]; exact hS
  generalize ([] : List Loc) = locs at hS ⊢
  refine lv_iload_n hx hb dL_does_0 rfl (lv_at hl 1 rfl) ?_
  refine lv_if_ne (tgt := 13) hx hb dL_does_1 (by decide) (fun h => absurd nI_0 h) (fun _ => ?_)
  refine lv_aload_n hx hb dL_does_4 rfl (lv_at hl 0 rfl) ?_
  refine lv_iload_n hx hb dL_does_5 rfl (lv_at hl 2 rfl) ?_
  refine lv_iload_n hx hb dL_does_6 rfl (lv_at hl 3 rfl) ?_
  refine eg_callX (wr := []) (As := [.int x0, .int x1]) (rest := []) hx hb hml hown hts hK hP hD hS hT [0, 1, 2, 3, 4, 5, 6, 7, 8, 9, 10, 11, 12] [] rfl rfl (by decide) hM (cwV 2 hts gL_does_X0_delete rfl hrm.1 hrm.2.1 (by decide +kernel) ⟨hrm.2.2.1, hrm.2.2.2⟩) (va_recv hK hP (ci := 0) (q0 := 0) rfl rfl) rfl hl.1 rfl (Nat.le_of_ble_eq_true rfl) dL_does_7 ⟨Nat.le_of_ble_eq_true rfl, Nat.le_of_ble_eq_true rfl⟩ (fun w9 H1 locs q9 ce hg9 hR9 hw9 hP hD hS hc1 hc2 hc3 => ?_)
  refine vx_catch (own := RL) (name := "java/lang/IllegalStateException") hown [⟨0, 33, 34, 14⟩] ⟨0, 33, 39, 18⟩ [] (htb.trans rfl) (List.forall_mem_cons.mpr ⟨Or.inr ⟨(by decide), "java/lang/IndexOutOfBoundsException", hts (.classLink RL 14 "java/lang/IndexOutOfBoundsException") (by decide +kernel), hT.1.2.2.2.2.2.2.2.2.1⟩, (fun z hz => absurd hz List.not_mem_nil)⟩) (by decide) (by decide) (hts (.classLink RL 18 "java/lang/IllegalStateException") (by decide +kernel)) (va_Nw.use rfl hT.1.2.2.2.2.2.2.1) hc1 hc2 hc3 ?_
  refine lv_astore (lv' := [(4, .ref q9), (0, .ref (q 0)), (1, .int (nI 0)), (2, .int x0), (3, .int x1)]) hx hb dL_does_39 hl (by decide) rfl (fun ls hl => ?_)
  refine lv_bipush (v := -8) hx hb dL_does_41 (by decide +kernel) ?_
  exact W.iret hx hb hr (fun t9 ht9 _ => ⟨⟨some (.int (-8)), w9, rfl, ⟨rfl, hR9⟩, hw9, by rw [ht9]; exact hP, hS.F ht9⟩, by rw [ht9, h0H]; exact hg9⟩) hS.2.2 dL_does_43
set_option maxHeartbeats 4000000 in
set_option maxRecDepth 100000 in
theorem wl_of_length (l : Launch) (D : va_G) (cI cJ : ClassId) (q : Nat → Nat) (n : Nat) (mk lt tg : Nat → Int32) (pa an la kn : Nat → Int64) (fb : Int32) (fh nb te wt bh : Nat → Int32) (x0 x1 : Int32) {rm : Room} (hrm : rm.cells = 0 ∧ rm.slots = 0 ∧ rm.frames + 1 ≤ 9 ∧ 8 + (2 + 11) + rm.locals ≤ 150) {Rq : Option Value → va_W → Prop} (hM : eg_MW D (tyL cI cJ) l yX0_length wsX0_length rm 0 0 [.ref (q 0), .int x0] (wX q cI cJ (nI n) mk lt tg pa an la kn fb fh nb te wt bh) Rq) (hRq : ∀ v w1, Rq v w1 → ∃ x : Int32, v = some (.int x)) : eg_ML D (tyL cI cJ) l yL_of wsL_of rmL [.ref (q 0), .int (nI 0), .int x0, .int x1] (wX q cI cJ (nI n) mk lt tg pa an la kn fb fh nb te wt bh) (fun r w1 => ∃ x : Int32, r = some (.int x) ∧ Rq (some (.int x)) w1) := by
  refine eg_ofWH (cc := cL_of) (maxL := 5) (ret := (some .int)) (hh := [(0, 85, 86, 14)]) (by decide) rfl ?_
  intro p e s m args below meth c s₁ B hml htb hv
  obtain ⟨rfl, hP, hK, hD0, hT⟩ := hv
  have hx := B.exec
  have hb := B.bytes
  have hr := B.returns
  have hts := atoms_spec (ws := wsL_of) B.pre
  have hown : s.vm.findClass RL = some m.cls := findClass_of_methodNamed B.named
  have hlocks := B.notSynchronized
  have hD := eg_D_of hD0
  have hS : va_S (eg_A (wX q cI cJ (nI n) mk lt tg pa an la kn fb fh nb te wt bh)) s.heap s.heap [] := va_S.rf
  have hl := lv_entry ([.ref (q 0), .int (nI 0), .int x0, .int x1]) (n := 5) (Nat.le_of_ble_eq_true rfl)
  rw [lg_entry_eq]
  generalize (lg_sl ([.ref (q 0), .int (nI 0), .int x0, .int x1]) ++ List.replicate (5 - (lg_sl ([.ref (q 0), .int (nI 0), .int x0, .int x1])).length) Slot.unset).toArray = ls at hl ⊢
  have hl : lv_has ls 5 [(0, .ref (q 0)), (1, .int (nI 0)), (2, .int x0), (3, .int x1)] := hl
  generalize h0H : s.heap = H at hP ⊢
  have hS : va_S (eg_A (wX q cI cJ (nI n) mk lt tg pa an la kn fb fh nb te wt bh)) s.heap H [] := by rw [← h0H]; exact hS
  generalize ([] : List Loc) = locs at hS ⊢
  refine lv_iload_n hx hb dL_of_0 rfl (lv_at hl 1 rfl) ?_
  refine lv_if_ne (tgt := 12) hx hb dL_of_1 (by decide) (fun h => absurd nI_0 h) (fun _ => ?_)
  refine lv_aload_n hx hb dL_of_4 rfl (lv_at hl 0 rfl) ?_
  refine lv_iload_n hx hb dL_of_5 rfl (lv_at hl 2 rfl) ?_
  refine eg_callWVc (wr := []) (As := [.int x0]) (rest := []) hx hb hml hown hts hK hP hD hS [0, 1, 2, 3, 4, 5, 6, 7, 8, 9, 10, 11, 12] [] rfl rfl (by decide) hM (cwV 1 hts gL_of_X0_length rfl hrm.1 hrm.2.1 (by decide +kernel) ⟨hrm.2.2.1, hrm.2.2.2⟩) (va_recv hK hP (ci := 0) (q0 := 0) rfl rfl) rfl hl.1 rfl (Nat.le_of_ble_eq_true rfl) dL_of_6 ⟨Nat.le_of_ble_eq_true rfl, Nat.le_of_ble_eq_true rfl⟩ (fun v9 w9 H locs hR9 hw9 hP hD hS => ?_)
  obtain ⟨x, rfl⟩ := hRq _ _ hR9
  refine lv_goto (tgt := 85) hx hb dL_of_9 (by decide) ?_
  refine W.widen (k := 1) (n := 6) (by omega) (by omega) ?_
  exact W.iret hx hb hr (fun t9 ht9 _ => ⟨some (.int x), w9, rfl, ⟨x, rfl, hR9⟩, hw9, by rw [ht9]; exact hP, hS.F ht9⟩) hS.2.2 dL_of_85
set_option maxHeartbeats 4000000 in
set_option maxRecDepth 100000 in
theorem wl_of_length_b (l : Launch) (D : va_G) (cI cJ : ClassId) (q : Nat → Nat) (n : Nat) (mk lt tg : Nat → Int32) (pa an la kn : Nat → Int64) (fb : Int32) (fh nb te wt bh : Nat → Int32) (x0 x1 : Int32) {rm : Room} (hrm : rm.cells = 1 ∧ rm.slots = 6 ∧ rm.frames + 1 ≤ 9 ∧ 8 + (2 + 11) + rm.locals ≤ 150) {Rx : va_W → Prop} (hM : eg_MX D (tyL cI cJ) l yX0_length wsX0_length rm [.ref (q 0), .int x0] (wX q cI cJ (nI n) mk lt tg pa an la kn fb fh nb te wt bh) "java/lang/IndexOutOfBoundsException" Rx) : eg_MLg D (tyL cI cJ) l yL_of wsL_of rmL [.ref (q 0), .int (nI 0), .int x0, .int x1] (wX q cI cJ (nI n) mk lt tg pa an la kn fb fh nb te wt bh) (fun r w1 => r = some (.int (-8)) ∧ Rx w1) 1 := by
  refine eg_ofWH (cc := cL_of) (maxL := 5) (ret := (some .int)) (hh := [(0, 85, 86, 14)]) (by decide) rfl ?_
  intro p e s m args below meth c s₁ B hml htb hv
  obtain ⟨rfl, hP, hK, hD0, hT⟩ := hv
  have hx := B.exec
  have hb := B.bytes
  have hr := B.returns
  have hts := atoms_spec (ws := wsL_of) B.pre
  have hown : s.vm.findClass RL = some m.cls := findClass_of_methodNamed B.named
  have hlocks := B.notSynchronized
  have hD := eg_D_of hD0
  have hS : va_S (eg_A (wX q cI cJ (nI n) mk lt tg pa an la kn fb fh nb te wt bh)) s.heap s.heap [] := va_S.rf
  have hl := lv_entry ([.ref (q 0), .int (nI 0), .int x0, .int x1]) (n := 5) (Nat.le_of_ble_eq_true rfl)
  rw [lg_entry_eq]
  generalize (lg_sl ([.ref (q 0), .int (nI 0), .int x0, .int x1]) ++ List.replicate (5 - (lg_sl ([.ref (q 0), .int (nI 0), .int x0, .int x1])).length) Slot.unset).toArray = ls at hl ⊢
  have hl : lv_has ls 5 [(0, .ref (q 0)), (1, .int (nI 0)), (2, .int x0), (3, .int x1)] := hl
  generalize h0H : s.heap = H at hP ⊢
  have hS : va_S (eg_A (wX q cI cJ (nI n) mk lt tg pa an la kn fb fh nb te wt bh)) s.heap H [] := by rw [← h0H]; exact hS
  generalize ([] : List Loc) = locs at hS ⊢
  refine lv_iload_n hx hb dL_of_0 rfl (lv_at hl 1 rfl) ?_
  refine lv_if_ne (tgt := 12) hx hb dL_of_1 (by decide) (fun h => absurd nI_0 h) (fun _ => ?_)
  refine lv_aload_n hx hb dL_of_4 rfl (lv_at hl 0 rfl) ?_
  refine lv_iload_n hx hb dL_of_5 rfl (lv_at hl 2 rfl) ?_
  refine eg_callX (wr := []) (As := [.int x0]) (rest := []) hx hb hml hown hts hK hP hD hS hT [0, 1, 2, 3, 4, 5, 6, 7, 8, 9, 10, 11, 12] [] rfl rfl (by decide) hM (cwV 1 hts gL_of_X0_length rfl hrm.1 hrm.2.1 (by decide +kernel) ⟨hrm.2.2.1, hrm.2.2.2⟩) (va_recv hK hP (ci := 0) (q0 := 0) rfl rfl) rfl hl.1 rfl (Nat.le_of_ble_eq_true rfl) dL_of_6 ⟨Nat.le_of_ble_eq_true rfl, Nat.le_of_ble_eq_true rfl⟩ (fun w9 H1 locs q9 ce hg9 hR9 hw9 hP hD hS hc1 hc2 hc3 => ?_)
  refine vx_catch (own := RL) (name := "java/lang/IndexOutOfBoundsException") hown [] ⟨0, 85, 86, 14⟩ [] (htb.trans rfl) (fun z hz => absurd hz List.not_mem_nil) (by decide) (by decide) (hts (.classLink RL 14 "java/lang/IndexOutOfBoundsException") (by decide +kernel)) (va_Nw.use rfl hT.1.2.2.2.2.1) hc1 hc2 hc3 ?_
  refine lv_astore (lv' := [(4, .ref q9), (0, .ref (q 0)), (1, .int (nI 0)), (2, .int x0), (3, .int x1)]) hx hb dL_of_86 hl (by decide) rfl (fun ls hl => ?_)
  refine lv_bipush (v := -8) hx hb dL_of_88 (by decide +kernel) ?_
  exact W.iret hx hb hr (fun t9 ht9 _ => ⟨⟨some (.int (-8)), w9, rfl, ⟨rfl, hR9⟩, hw9, by rw [ht9]; exact hP, hS.F ht9⟩, by rw [ht9, h0H]; exact hg9⟩) hS.2.2 dL_of_90
set_option maxHeartbeats 4000000 in
set_option maxRecDepth 100000 in
theorem wl_of_concurrent (l : Launch) (D : va_G) (cI cJ : ClassId) (q : Nat → Nat) (n : Nat) (mk lt tg : Nat → Int32) (pa an la kn : Nat → Int64) (fb : Int32) (fh nb te wt bh : Nat → Int32) (x0 x1 : Int32) {rm : Room} (hrm : rm.cells = 0 ∧ rm.slots = 0 ∧ rm.frames + 1 ≤ 9 ∧ 8 + (6 + 11) + rm.locals ≤ 150) {Rq : Option Value → va_W → Prop} (hM : eg_MW D (tyL cI cJ) l yX0_concurrent wsX0_concurrent rm 0 0 [.ref (q 0), .int x0] (wX q cI cJ (nI n) mk lt tg pa an la kn fb fh nb te wt bh) Rq) (hRq : ∀ v w1, Rq v w1 → ∃ x : Int32, v = some (.int x)) : eg_ML D (tyL cI cJ) l yL_of wsL_of rmL [.ref (q 0), .int (nI 1), .int x0, .int x1] (wX q cI cJ (nI n) mk lt tg pa an la kn fb fh nb te wt bh) (fun r w1 => ∃ x : Int32, r = some (.int x) ∧ Rq (some (.int x)) w1) := by
  refine eg_ofWH (cc := cL_of) (maxL := 5) (ret := (some .int)) (hh := [(0, 85, 86, 14)]) (by decide) rfl ?_
  intro p e s m args below meth c s₁ B hml htb hv
  obtain ⟨rfl, hP, hK, hD0, hT⟩ := hv
  have hx := B.exec
  have hb := B.bytes
  have hr := B.returns
  have hts := atoms_spec (ws := wsL_of) B.pre
  have hown : s.vm.findClass RL = some m.cls := findClass_of_methodNamed B.named
  have hlocks := B.notSynchronized
  have hD := eg_D_of hD0
  have hS : va_S (eg_A (wX q cI cJ (nI n) mk lt tg pa an la kn fb fh nb te wt bh)) s.heap s.heap [] := va_S.rf
  have hl := lv_entry ([.ref (q 0), .int (nI 1), .int x0, .int x1]) (n := 5) (Nat.le_of_ble_eq_true rfl)
  rw [lg_entry_eq]
  generalize (lg_sl ([.ref (q 0), .int (nI 1), .int x0, .int x1]) ++ List.replicate (5 - (lg_sl ([.ref (q 0), .int (nI 1), .int x0, .int x1])).length) Slot.unset).toArray = ls at hl ⊢
  have hl : lv_has ls 5 [(0, .ref (q 0)), (1, .int (nI 1)), (2, .int x0), (3, .int x1)] := hl
  generalize h0H : s.heap = H at hP ⊢
  have hS : va_S (eg_A (wX q cI cJ (nI n) mk lt tg pa an la kn fb fh nb te wt bh)) s.heap H [] := by rw [← h0H]; exact hS
  generalize ([] : List Loc) = locs at hS ⊢
  refine lv_iload_n hx hb dL_of_0 rfl (lv_at hl 1 rfl) ?_
  refine lv_if_ne (tgt := 12) hx hb dL_of_1 (by decide) (fun _ => ?_) (fun h => absurd h (by decide +kernel))
  refine lv_iload_n hx hb dL_of_12 rfl (lv_at hl 1 rfl) ?_
  refine lv_iconst (v := nI 1) hx hb dL_of_13 (by decide +kernel) ?_
  refine lv_icmp_ne (tgt := 25) hx hb dL_of_14 (by decide) (fun h => absurd rfl h) (fun _ => ?_)
  refine lv_aload_n hx hb dL_of_17 rfl (lv_at hl 0 rfl) ?_
  refine lv_iload_n hx hb dL_of_18 rfl (lv_at hl 2 rfl) ?_
  refine eg_callWVc (wr := []) (As := [.int x0]) (rest := []) hx hb hml hown hts hK hP hD hS [0, 1, 2, 3, 4, 5, 6, 7, 8, 9, 10, 11, 12] [] rfl rfl (by decide) hM (cwV 1 hts gL_of_X0_concurrent rfl hrm.1 hrm.2.1 (by decide +kernel) ⟨hrm.2.2.1, hrm.2.2.2⟩) (va_recv hK hP (ci := 0) (q0 := 0) rfl rfl) rfl hl.1 rfl (Nat.le_of_ble_eq_true rfl) dL_of_19 ⟨Nat.le_of_ble_eq_true rfl, Nat.le_of_ble_eq_true rfl⟩ (fun v9 w9 H locs hR9 hw9 hP hD hS => ?_)
  obtain ⟨x, rfl⟩ := hRq _ _ hR9
  refine lv_goto (tgt := 85) hx hb dL_of_22 (by decide) ?_
  refine W.widen (k := 1) (n := 6) (by omega) (by omega) ?_
  exact W.iret hx hb hr (fun t9 ht9 _ => ⟨some (.int x), w9, rfl, ⟨x, rfl, hR9⟩, hw9, by rw [ht9]; exact hP, hS.F ht9⟩) hS.2.2 dL_of_85
set_option maxHeartbeats 4000000 in
set_option maxRecDepth 100000 in
theorem wl_of_concurrent_b (l : Launch) (D : va_G) (cI cJ : ClassId) (q : Nat → Nat) (n : Nat) (mk lt tg : Nat → Int32) (pa an la kn : Nat → Int64) (fb : Int32) (fh nb te wt bh : Nat → Int32) (x0 x1 : Int32) {rm : Room} (hrm : rm.cells = 1 ∧ rm.slots = 6 ∧ rm.frames + 1 ≤ 9 ∧ 8 + (6 + 11) + rm.locals ≤ 150) {Rx : va_W → Prop} (hM : eg_MX D (tyL cI cJ) l yX0_concurrent wsX0_concurrent rm [.ref (q 0), .int x0] (wX q cI cJ (nI n) mk lt tg pa an la kn fb fh nb te wt bh) "java/lang/IndexOutOfBoundsException" Rx) : eg_MLg D (tyL cI cJ) l yL_of wsL_of rmL [.ref (q 0), .int (nI 1), .int x0, .int x1] (wX q cI cJ (nI n) mk lt tg pa an la kn fb fh nb te wt bh) (fun r w1 => r = some (.int (-8)) ∧ Rx w1) 1 := by
  refine eg_ofWH (cc := cL_of) (maxL := 5) (ret := (some .int)) (hh := [(0, 85, 86, 14)]) (by decide) rfl ?_
  intro p e s m args below meth c s₁ B hml htb hv
  obtain ⟨rfl, hP, hK, hD0, hT⟩ := hv
  have hx := B.exec
  have hb := B.bytes
  have hr := B.returns
  have hts := atoms_spec (ws := wsL_of) B.pre
  have hown : s.vm.findClass RL = some m.cls := findClass_of_methodNamed B.named
  have hlocks := B.notSynchronized
  have hD := eg_D_of hD0
  have hS : va_S (eg_A (wX q cI cJ (nI n) mk lt tg pa an la kn fb fh nb te wt bh)) s.heap s.heap [] := va_S.rf
  have hl := lv_entry ([.ref (q 0), .int (nI 1), .int x0, .int x1]) (n := 5) (Nat.le_of_ble_eq_true rfl)
  rw [lg_entry_eq]
  generalize (lg_sl ([.ref (q 0), .int (nI 1), .int x0, .int x1]) ++ List.replicate (5 - (lg_sl ([.ref (q 0), .int (nI 1), .int x0, .int x1])).length) Slot.unset).toArray = ls at hl ⊢
  have hl : lv_has ls 5 [(0, .ref (q 0)), (1, .int (nI 1)), (2, .int x0), (3, .int x1)] := hl
  generalize h0H : s.heap = H at hP ⊢
  have hS : va_S (eg_A (wX q cI cJ (nI n) mk lt tg pa an la kn fb fh nb te wt bh)) s.heap H [] := by rw [← h0H]; exact hS
  generalize ([] : List Loc) = locs at hS ⊢
  refine lv_iload_n hx hb dL_of_0 rfl (lv_at hl 1 rfl) ?_
  refine lv_if_ne (tgt := 12) hx hb dL_of_1 (by decide) (fun _ => ?_) (fun h => absurd h (by decide +kernel))
  refine lv_iload_n hx hb dL_of_12 rfl (lv_at hl 1 rfl) ?_
  refine lv_iconst (v := nI 1) hx hb dL_of_13 (by decide +kernel) ?_
  refine lv_icmp_ne (tgt := 25) hx hb dL_of_14 (by decide) (fun h => absurd rfl h) (fun _ => ?_)
  refine lv_aload_n hx hb dL_of_17 rfl (lv_at hl 0 rfl) ?_
  refine lv_iload_n hx hb dL_of_18 rfl (lv_at hl 2 rfl) ?_
  refine eg_callX (wr := []) (As := [.int x0]) (rest := []) hx hb hml hown hts hK hP hD hS hT [0, 1, 2, 3, 4, 5, 6, 7, 8, 9, 10, 11, 12] [] rfl rfl (by decide) hM (cwV 1 hts gL_of_X0_concurrent rfl hrm.1 hrm.2.1 (by decide +kernel) ⟨hrm.2.2.1, hrm.2.2.2⟩) (va_recv hK hP (ci := 0) (q0 := 0) rfl rfl) rfl hl.1 rfl (Nat.le_of_ble_eq_true rfl) dL_of_19 ⟨Nat.le_of_ble_eq_true rfl, Nat.le_of_ble_eq_true rfl⟩ (fun w9 H1 locs q9 ce hg9 hR9 hw9 hP hD hS hc1 hc2 hc3 => ?_)
  refine vx_catch (own := RL) (name := "java/lang/IndexOutOfBoundsException") hown [] ⟨0, 85, 86, 14⟩ [] (htb.trans rfl) (fun z hz => absurd hz List.not_mem_nil) (by decide) (by decide) (hts (.classLink RL 14 "java/lang/IndexOutOfBoundsException") (by decide +kernel)) (va_Nw.use rfl hT.1.2.2.2.2.1) hc1 hc2 hc3 ?_
  refine lv_astore (lv' := [(4, .ref q9), (0, .ref (q 0)), (1, .int (nI 1)), (2, .int x0), (3, .int x1)]) hx hb dL_of_86 hl (by decide) rfl (fun ls hl => ?_)
  refine lv_bipush (v := -8) hx hb dL_of_88 (by decide +kernel) ?_
  exact W.iret hx hb hr (fun t9 ht9 _ => ⟨⟨some (.int (-8)), w9, rfl, ⟨rfl, hR9⟩, hw9, by rw [ht9]; exact hP, hS.F ht9⟩, by rw [ht9, h0H]; exact hg9⟩) hS.2.2 dL_of_90
set_option maxHeartbeats 4000000 in
set_option maxRecDepth 100000 in
theorem wl_of_toReplay (l : Launch) (D : va_G) (cI cJ : ClassId) (q : Nat → Nat) (n : Nat) (mk lt tg : Nat → Int32) (pa an la kn : Nat → Int64) (fb : Int32) (fh nb te wt bh : Nat → Int32) (x0 x1 : Int32) {rm : Room} (hrm : rm.cells = 0 ∧ rm.slots = 0 ∧ rm.frames + 1 ≤ 9 ∧ 8 + (9 + 11) + rm.locals ≤ 150) {Rq : Option Value → va_W → Prop} (hM : eg_MW D (tyL cI cJ) l yX0_toReplay wsX0_toReplay rm 0 0 [.ref (q 0), .int x0] (wX q cI cJ (nI n) mk lt tg pa an la kn fb fh nb te wt bh) Rq) (hRq : ∀ v w1, Rq v w1 → ∃ x : Int32, v = some (.int x)) : eg_ML D (tyL cI cJ) l yL_of wsL_of rmL [.ref (q 0), .int (nI 2), .int x0, .int x1] (wX q cI cJ (nI n) mk lt tg pa an la kn fb fh nb te wt bh) (fun r w1 => ∃ x : Int32, r = some (.int x) ∧ Rq (some (.int x)) w1) := by
  refine eg_ofWH (cc := cL_of) (maxL := 5) (ret := (some .int)) (hh := [(0, 85, 86, 14)]) (by decide) rfl ?_
  intro p e s m args below meth c s₁ B hml htb hv
  obtain ⟨rfl, hP, hK, hD0, hT⟩ := hv
  have hx := B.exec
  have hb := B.bytes
  have hr := B.returns
  have hts := atoms_spec (ws := wsL_of) B.pre
  have hown : s.vm.findClass RL = some m.cls := findClass_of_methodNamed B.named
  have hlocks := B.notSynchronized
  have hD := eg_D_of hD0
  have hS : va_S (eg_A (wX q cI cJ (nI n) mk lt tg pa an la kn fb fh nb te wt bh)) s.heap s.heap [] := va_S.rf
  have hl := lv_entry ([.ref (q 0), .int (nI 2), .int x0, .int x1]) (n := 5) (Nat.le_of_ble_eq_true rfl)
  rw [lg_entry_eq]
  generalize (lg_sl ([.ref (q 0), .int (nI 2), .int x0, .int x1]) ++ List.replicate (5 - (lg_sl ([.ref (q 0), .int (nI 2), .int x0, .int x1])).length) Slot.unset).toArray = ls at hl ⊢
  have hl : lv_has ls 5 [(0, .ref (q 0)), (1, .int (nI 2)), (2, .int x0), (3, .int x1)] := hl
  generalize h0H : s.heap = H at hP ⊢
  have hS : va_S (eg_A (wX q cI cJ (nI n) mk lt tg pa an la kn fb fh nb te wt bh)) s.heap H [] := by rw [← h0H]; exact hS
  generalize ([] : List Loc) = locs at hS ⊢
  refine lv_iload_n hx hb dL_of_0 rfl (lv_at hl 1 rfl) ?_
  refine lv_if_ne (tgt := 12) hx hb dL_of_1 (by decide) (fun _ => ?_) (fun h => absurd h (by decide +kernel))
  refine lv_iload_n hx hb dL_of_12 rfl (lv_at hl 1 rfl) ?_
  refine lv_iconst (v := nI 1) hx hb dL_of_13 (by decide +kernel) ?_
  refine lv_icmp_ne (tgt := 25) hx hb dL_of_14 (by decide) (fun _ => ?_) (fun h => absurd h (by decide +kernel))
  refine lv_iload_n hx hb dL_of_25 rfl (lv_at hl 1 rfl) ?_
  refine lv_iconst (v := nI 2) hx hb dL_of_26 (by decide +kernel) ?_
  refine lv_icmp_ne (tgt := 38) hx hb dL_of_27 (by decide) (fun h => absurd rfl h) (fun _ => ?_)
  refine lv_aload_n hx hb dL_of_30 rfl (lv_at hl 0 rfl) ?_
  refine lv_iload_n hx hb dL_of_31 rfl (lv_at hl 2 rfl) ?_
  refine eg_callWVc (wr := []) (As := [.int x0]) (rest := []) hx hb hml hown hts hK hP hD hS [0, 1, 2, 3, 4, 5, 6, 7, 8, 9, 10, 11, 12] [] rfl rfl (by decide) hM (cwV 1 hts gL_of_X0_toReplay rfl hrm.1 hrm.2.1 (by decide +kernel) ⟨hrm.2.2.1, hrm.2.2.2⟩) (va_recv hK hP (ci := 0) (q0 := 0) rfl rfl) rfl hl.1 rfl (Nat.le_of_ble_eq_true rfl) dL_of_32 ⟨Nat.le_of_ble_eq_true rfl, Nat.le_of_ble_eq_true rfl⟩ (fun v9 w9 H locs hR9 hw9 hP hD hS => ?_)
  obtain ⟨x, rfl⟩ := hRq _ _ hR9
  refine lv_goto (tgt := 85) hx hb dL_of_35 (by decide) ?_
  refine W.widen (k := 1) (n := 6) (by omega) (by omega) ?_
  exact W.iret hx hb hr (fun t9 ht9 _ => ⟨some (.int x), w9, rfl, ⟨x, rfl, hR9⟩, hw9, by rw [ht9]; exact hP, hS.F ht9⟩) hS.2.2 dL_of_85
set_option maxHeartbeats 4000000 in
set_option maxRecDepth 100000 in
theorem wl_of_toReplay_b (l : Launch) (D : va_G) (cI cJ : ClassId) (q : Nat → Nat) (n : Nat) (mk lt tg : Nat → Int32) (pa an la kn : Nat → Int64) (fb : Int32) (fh nb te wt bh : Nat → Int32) (x0 x1 : Int32) {rm : Room} (hrm : rm.cells = 1 ∧ rm.slots = 6 ∧ rm.frames + 1 ≤ 9 ∧ 8 + (9 + 11) + rm.locals ≤ 150) {Rx : va_W → Prop} (hM : eg_MX D (tyL cI cJ) l yX0_toReplay wsX0_toReplay rm [.ref (q 0), .int x0] (wX q cI cJ (nI n) mk lt tg pa an la kn fb fh nb te wt bh) "java/lang/IndexOutOfBoundsException" Rx) : eg_MLg D (tyL cI cJ) l yL_of wsL_of rmL [.ref (q 0), .int (nI 2), .int x0, .int x1] (wX q cI cJ (nI n) mk lt tg pa an la kn fb fh nb te wt bh) (fun r w1 => r = some (.int (-8)) ∧ Rx w1) 1 := by
  refine eg_ofWH (cc := cL_of) (maxL := 5) (ret := (some .int)) (hh := [(0, 85, 86, 14)]) (by decide) rfl ?_
  intro p e s m args below meth c s₁ B hml htb hv
  obtain ⟨rfl, hP, hK, hD0, hT⟩ := hv
  have hx := B.exec
  have hb := B.bytes
  have hr := B.returns
  have hts := atoms_spec (ws := wsL_of) B.pre
  have hown : s.vm.findClass RL = some m.cls := findClass_of_methodNamed B.named
  have hlocks := B.notSynchronized
  have hD := eg_D_of hD0
  have hS : va_S (eg_A (wX q cI cJ (nI n) mk lt tg pa an la kn fb fh nb te wt bh)) s.heap s.heap [] := va_S.rf
  have hl := lv_entry ([.ref (q 0), .int (nI 2), .int x0, .int x1]) (n := 5) (Nat.le_of_ble_eq_true rfl)
  rw [lg_entry_eq]
  generalize (lg_sl ([.ref (q 0), .int (nI 2), .int x0, .int x1]) ++ List.replicate (5 - (lg_sl ([.ref (q 0), .int (nI 2), .int x0, .int x1])).length) Slot.unset).toArray = ls at hl ⊢
  have hl : lv_has ls 5 [(0, .ref (q 0)), (1, .int (nI 2)), (2, .int x0), (3, .int x1)] := hl
  generalize h0H : s.heap = H at hP ⊢
  have hS : va_S (eg_A (wX q cI cJ (nI n) mk lt tg pa an la kn fb fh nb te wt bh)) s.heap H [] := by rw [← h0H]; exact hS
  generalize ([] : List Loc) = locs at hS ⊢
  refine lv_iload_n hx hb dL_of_0 rfl (lv_at hl 1 rfl) ?_
  refine lv_if_ne (tgt := 12) hx hb dL_of_1 (by decide) (fun _ => ?_) (fun h => absurd h (by decide +kernel))
  refine lv_iload_n hx hb dL_of_12 rfl (lv_at hl 1 rfl) ?_
  refine lv_iconst (v := nI 1) hx hb dL_of_13 (by decide +kernel) ?_
  refine lv_icmp_ne (tgt := 25) hx hb dL_of_14 (by decide) (fun _ => ?_) (fun h => absurd h (by decide +kernel))
  refine lv_iload_n hx hb dL_of_25 rfl (lv_at hl 1 rfl) ?_
  refine lv_iconst (v := nI 2) hx hb dL_of_26 (by decide +kernel) ?_
  refine lv_icmp_ne (tgt := 38) hx hb dL_of_27 (by decide) (fun h => absurd rfl h) (fun _ => ?_)
  refine lv_aload_n hx hb dL_of_30 rfl (lv_at hl 0 rfl) ?_
  refine lv_iload_n hx hb dL_of_31 rfl (lv_at hl 2 rfl) ?_
  refine eg_callX (wr := []) (As := [.int x0]) (rest := []) hx hb hml hown hts hK hP hD hS hT [0, 1, 2, 3, 4, 5, 6, 7, 8, 9, 10, 11, 12] [] rfl rfl (by decide) hM (cwV 1 hts gL_of_X0_toReplay rfl hrm.1 hrm.2.1 (by decide +kernel) ⟨hrm.2.2.1, hrm.2.2.2⟩) (va_recv hK hP (ci := 0) (q0 := 0) rfl rfl) rfl hl.1 rfl (Nat.le_of_ble_eq_true rfl) dL_of_32 ⟨Nat.le_of_ble_eq_true rfl, Nat.le_of_ble_eq_true rfl⟩ (fun w9 H1 locs q9 ce hg9 hR9 hw9 hP hD hS hc1 hc2 hc3 => ?_)
  refine vx_catch (own := RL) (name := "java/lang/IndexOutOfBoundsException") hown [] ⟨0, 85, 86, 14⟩ [] (htb.trans rfl) (fun z hz => absurd hz List.not_mem_nil) (by decide) (by decide) (hts (.classLink RL 14 "java/lang/IndexOutOfBoundsException") (by decide +kernel)) (va_Nw.use rfl hT.1.2.2.2.2.1) hc1 hc2 hc3 ?_
  refine lv_astore (lv' := [(4, .ref q9), (0, .ref (q 0)), (1, .int (nI 2)), (2, .int x0), (3, .int x1)]) hx hb dL_of_86 hl (by decide) rfl (fun ls hl => ?_)
  refine lv_bipush (v := -8) hx hb dL_of_88 (by decide +kernel) ?_
  exact W.iret hx hb hr (fun t9 ht9 _ => ⟨⟨some (.int (-8)), w9, rfl, ⟨rfl, hR9⟩, hw9, by rw [ht9]; exact hP, hS.F ht9⟩, by rw [ht9, h0H]; exact hg9⟩) hS.2.2 dL_of_90
set_option maxHeartbeats 4000000 in
set_option maxRecDepth 100000 in
theorem wl_of_runs (l : Launch) (D : va_G) (cI cJ : ClassId) (q : Nat → Nat) (n : Nat) (mk lt tg : Nat → Int32) (pa an la kn : Nat → Int64) (fb : Int32) (fh nb te wt bh : Nat → Int32) (x0 x1 : Int32) {rm : Room} (hrm : rm.cells = 0 ∧ rm.slots = 0 ∧ rm.frames + 1 ≤ 9 ∧ 8 + (6 + 11) + rm.locals ≤ 150) {Rq : Option Value → va_W → Prop} (hM : eg_MW D (tyL cI cJ) l yX0_runs wsX0_runs rm 0 0 [.ref (q 0), .int x0] (wX q cI cJ (nI n) mk lt tg pa an la kn fb fh nb te wt bh) Rq) (hRq : ∀ v w1, Rq v w1 → ∃ x : Int32, v = some (.int x)) : eg_ML D (tyL cI cJ) l yL_of wsL_of rmL [.ref (q 0), .int (nI 3), .int x0, .int x1] (wX q cI cJ (nI n) mk lt tg pa an la kn fb fh nb te wt bh) (fun r w1 => ∃ x : Int32, r = some (.int x) ∧ Rq (some (.int x)) w1) := by
  refine eg_ofWH (cc := cL_of) (maxL := 5) (ret := (some .int)) (hh := [(0, 85, 86, 14)]) (by decide) rfl ?_
  intro p e s m args below meth c s₁ B hml htb hv
  obtain ⟨rfl, hP, hK, hD0, hT⟩ := hv
  have hx := B.exec
  have hb := B.bytes
  have hr := B.returns
  have hts := atoms_spec (ws := wsL_of) B.pre
  have hown : s.vm.findClass RL = some m.cls := findClass_of_methodNamed B.named
  have hlocks := B.notSynchronized
  have hD := eg_D_of hD0
  have hS : va_S (eg_A (wX q cI cJ (nI n) mk lt tg pa an la kn fb fh nb te wt bh)) s.heap s.heap [] := va_S.rf
  have hl := lv_entry ([.ref (q 0), .int (nI 3), .int x0, .int x1]) (n := 5) (Nat.le_of_ble_eq_true rfl)
  rw [lg_entry_eq]
  generalize (lg_sl ([.ref (q 0), .int (nI 3), .int x0, .int x1]) ++ List.replicate (5 - (lg_sl ([.ref (q 0), .int (nI 3), .int x0, .int x1])).length) Slot.unset).toArray = ls at hl ⊢
  have hl : lv_has ls 5 [(0, .ref (q 0)), (1, .int (nI 3)), (2, .int x0), (3, .int x1)] := hl
  generalize h0H : s.heap = H at hP ⊢
  have hS : va_S (eg_A (wX q cI cJ (nI n) mk lt tg pa an la kn fb fh nb te wt bh)) s.heap H [] := by rw [← h0H]; exact hS
  generalize ([] : List Loc) = locs at hS ⊢
  refine lv_iload_n hx hb dL_of_0 rfl (lv_at hl 1 rfl) ?_
  refine lv_if_ne (tgt := 12) hx hb dL_of_1 (by decide) (fun _ => ?_) (fun h => absurd h (by decide +kernel))
  refine lv_iload_n hx hb dL_of_12 rfl (lv_at hl 1 rfl) ?_
  refine lv_iconst (v := nI 1) hx hb dL_of_13 (by decide +kernel) ?_
  refine lv_icmp_ne (tgt := 25) hx hb dL_of_14 (by decide) (fun _ => ?_) (fun h => absurd h (by decide +kernel))
  refine lv_iload_n hx hb dL_of_25 rfl (lv_at hl 1 rfl) ?_
  refine lv_iconst (v := nI 2) hx hb dL_of_26 (by decide +kernel) ?_
  refine lv_icmp_ne (tgt := 38) hx hb dL_of_27 (by decide) (fun _ => ?_) (fun h => absurd h (by decide +kernel))
  refine lv_iload_n hx hb dL_of_38 rfl (lv_at hl 1 rfl) ?_
  refine lv_iconst (v := nI 3) hx hb dL_of_39 (by decide +kernel) ?_
  refine lv_icmp_ne (tgt := 51) hx hb dL_of_40 (by decide) (fun h => absurd rfl h) (fun _ => ?_)
  refine lv_aload_n hx hb dL_of_43 rfl (lv_at hl 0 rfl) ?_
  refine lv_iload_n hx hb dL_of_44 rfl (lv_at hl 2 rfl) ?_
  refine eg_callWVc (wr := []) (As := [.int x0]) (rest := []) hx hb hml hown hts hK hP hD hS [0, 1, 2, 3, 4, 5, 6, 7, 8, 9, 10, 11, 12] [] rfl rfl (by decide) hM (cwV 1 hts gL_of_X0_runs rfl hrm.1 hrm.2.1 (by decide +kernel) ⟨hrm.2.2.1, hrm.2.2.2⟩) (va_recv hK hP (ci := 0) (q0 := 0) rfl rfl) rfl hl.1 rfl (Nat.le_of_ble_eq_true rfl) dL_of_45 ⟨Nat.le_of_ble_eq_true rfl, Nat.le_of_ble_eq_true rfl⟩ (fun v9 w9 H locs hR9 hw9 hP hD hS => ?_)
  obtain ⟨x, rfl⟩ := hRq _ _ hR9
  refine lv_goto (tgt := 85) hx hb dL_of_48 (by decide) ?_
  refine W.widen (k := 1) (n := 6) (by omega) (by omega) ?_
  exact W.iret hx hb hr (fun t9 ht9 _ => ⟨some (.int x), w9, rfl, ⟨x, rfl, hR9⟩, hw9, by rw [ht9]; exact hP, hS.F ht9⟩) hS.2.2 dL_of_85
set_option maxHeartbeats 4000000 in
set_option maxRecDepth 100000 in
theorem wl_of_runs_b (l : Launch) (D : va_G) (cI cJ : ClassId) (q : Nat → Nat) (n : Nat) (mk lt tg : Nat → Int32) (pa an la kn : Nat → Int64) (fb : Int32) (fh nb te wt bh : Nat → Int32) (x0 x1 : Int32) {rm : Room} (hrm : rm.cells = 1 ∧ rm.slots = 6 ∧ rm.frames + 1 ≤ 9 ∧ 8 + (6 + 11) + rm.locals ≤ 150) {Rx : va_W → Prop} (hM : eg_MX D (tyL cI cJ) l yX0_runs wsX0_runs rm [.ref (q 0), .int x0] (wX q cI cJ (nI n) mk lt tg pa an la kn fb fh nb te wt bh) "java/lang/IndexOutOfBoundsException" Rx) : eg_MLg D (tyL cI cJ) l yL_of wsL_of rmL [.ref (q 0), .int (nI 3), .int x0, .int x1] (wX q cI cJ (nI n) mk lt tg pa an la kn fb fh nb te wt bh) (fun r w1 => r = some (.int (-8)) ∧ Rx w1) 1 := by
  refine eg_ofWH (cc := cL_of) (maxL := 5) (ret := (some .int)) (hh := [(0, 85, 86, 14)]) (by decide) rfl ?_
  intro p e s m args below meth c s₁ B hml htb hv
  obtain ⟨rfl, hP, hK, hD0, hT⟩ := hv
  have hx := B.exec
  have hb := B.bytes
  have hr := B.returns
  have hts := atoms_spec (ws := wsL_of) B.pre
  have hown : s.vm.findClass RL = some m.cls := findClass_of_methodNamed B.named
  have hlocks := B.notSynchronized
  have hD := eg_D_of hD0
  have hS : va_S (eg_A (wX q cI cJ (nI n) mk lt tg pa an la kn fb fh nb te wt bh)) s.heap s.heap [] := va_S.rf
  have hl := lv_entry ([.ref (q 0), .int (nI 3), .int x0, .int x1]) (n := 5) (Nat.le_of_ble_eq_true rfl)
  rw [lg_entry_eq]
  generalize (lg_sl ([.ref (q 0), .int (nI 3), .int x0, .int x1]) ++ List.replicate (5 - (lg_sl ([.ref (q 0), .int (nI 3), .int x0, .int x1])).length) Slot.unset).toArray = ls at hl ⊢
  have hl : lv_has ls 5 [(0, .ref (q 0)), (1, .int (nI 3)), (2, .int x0), (3, .int x1)] := hl
  generalize h0H : s.heap = H at hP ⊢
  have hS : va_S (eg_A (wX q cI cJ (nI n) mk lt tg pa an la kn fb fh nb te wt bh)) s.heap H [] := by rw [← h0H]; exact hS
  generalize ([] : List Loc) = locs at hS ⊢
  refine lv_iload_n hx hb dL_of_0 rfl (lv_at hl 1 rfl) ?_
  refine lv_if_ne (tgt := 12) hx hb dL_of_1 (by decide) (fun _ => ?_) (fun h => absurd h (by decide +kernel))
  refine lv_iload_n hx hb dL_of_12 rfl (lv_at hl 1 rfl) ?_
  refine lv_iconst (v := nI 1) hx hb dL_of_13 (by decide +kernel) ?_
  refine lv_icmp_ne (tgt := 25) hx hb dL_of_14 (by decide) (fun _ => ?_) (fun h => absurd h (by decide +kernel))
  refine lv_iload_n hx hb dL_of_25 rfl (lv_at hl 1 rfl) ?_
  refine lv_iconst (v := nI 2) hx hb dL_of_26 (by decide +kernel) ?_
  refine lv_icmp_ne (tgt := 38) hx hb dL_of_27 (by decide) (fun _ => ?_) (fun h => absurd h (by decide +kernel))
  refine lv_iload_n hx hb dL_of_38 rfl (lv_at hl 1 rfl) ?_
  refine lv_iconst (v := nI 3) hx hb dL_of_39 (by decide +kernel) ?_
  refine lv_icmp_ne (tgt := 51) hx hb dL_of_40 (by decide) (fun h => absurd rfl h) (fun _ => ?_)
  refine lv_aload_n hx hb dL_of_43 rfl (lv_at hl 0 rfl) ?_
  refine lv_iload_n hx hb dL_of_44 rfl (lv_at hl 2 rfl) ?_
  refine eg_callX (wr := []) (As := [.int x0]) (rest := []) hx hb hml hown hts hK hP hD hS hT [0, 1, 2, 3, 4, 5, 6, 7, 8, 9, 10, 11, 12] [] rfl rfl (by decide) hM (cwV 1 hts gL_of_X0_runs rfl hrm.1 hrm.2.1 (by decide +kernel) ⟨hrm.2.2.1, hrm.2.2.2⟩) (va_recv hK hP (ci := 0) (q0 := 0) rfl rfl) rfl hl.1 rfl (Nat.le_of_ble_eq_true rfl) dL_of_45 ⟨Nat.le_of_ble_eq_true rfl, Nat.le_of_ble_eq_true rfl⟩ (fun w9 H1 locs q9 ce hg9 hR9 hw9 hP hD hS hc1 hc2 hc3 => ?_)
  refine vx_catch (own := RL) (name := "java/lang/IndexOutOfBoundsException") hown [] ⟨0, 85, 86, 14⟩ [] (htb.trans rfl) (fun z hz => absurd hz List.not_mem_nil) (by decide) (by decide) (hts (.classLink RL 14 "java/lang/IndexOutOfBoundsException") (by decide +kernel)) (va_Nw.use rfl hT.1.2.2.2.2.1) hc1 hc2 hc3 ?_
  refine lv_astore (lv' := [(4, .ref q9), (0, .ref (q 0)), (1, .int (nI 3)), (2, .int x0), (3, .int x1)]) hx hb dL_of_86 hl (by decide) rfl (fun ls hl => ?_)
  refine lv_bipush (v := -8) hx hb dL_of_88 (by decide +kernel) ?_
  exact W.iret hx hb hr (fun t9 ht9 _ => ⟨⟨some (.int (-8)), w9, rfl, ⟨rfl, hR9⟩, hw9, by rw [ht9]; exact hP, hS.F ht9⟩, by rw [ht9, h0H]; exact hg9⟩) hS.2.2 dL_of_90
set_option maxHeartbeats 4000000 in
set_option maxRecDepth 100000 in
theorem wl_of_letterAt (l : Launch) (D : va_G) (cI cJ : ClassId) (q : Nat → Nat) (n : Nat) (mk lt tg : Nat → Int32) (pa an la kn : Nat → Int64) (fb : Int32) (fh nb te wt bh : Nat → Int32) (x0 x1 : Int32) {rm : Room} (hrm : rm.cells = 0 ∧ rm.slots = 0 ∧ rm.frames + 1 ≤ 9 ∧ 8 + (3 + 11) + rm.locals ≤ 150) {Rq : Option Value → va_W → Prop} (hM : eg_MW D (tyL cI cJ) l yX0_letterAt wsX0_letterAt rm 0 0 [.ref (q 0), .int x0, .int x1] (wX q cI cJ (nI n) mk lt tg pa an la kn fb fh nb te wt bh) Rq) (hRq : ∀ v w1, Rq v w1 → ∃ x : Int32, v = some (.int x)) : eg_ML D (tyL cI cJ) l yL_of wsL_of rmL [.ref (q 0), .int (nI 4), .int x0, .int x1] (wX q cI cJ (nI n) mk lt tg pa an la kn fb fh nb te wt bh) (fun r w1 => ∃ x : Int32, r = some (.int x) ∧ Rq (some (.int x)) w1) := by
  refine eg_ofWH (cc := cL_of) (maxL := 5) (ret := (some .int)) (hh := [(0, 85, 86, 14)]) (by decide) rfl ?_
  intro p e s m args below meth c s₁ B hml htb hv
  obtain ⟨rfl, hP, hK, hD0, hT⟩ := hv
  have hx := B.exec
  have hb := B.bytes
  have hr := B.returns
  have hts := atoms_spec (ws := wsL_of) B.pre
  have hown : s.vm.findClass RL = some m.cls := findClass_of_methodNamed B.named
  have hlocks := B.notSynchronized
  have hD := eg_D_of hD0
  have hS : va_S (eg_A (wX q cI cJ (nI n) mk lt tg pa an la kn fb fh nb te wt bh)) s.heap s.heap [] := va_S.rf
  have hl := lv_entry ([.ref (q 0), .int (nI 4), .int x0, .int x1]) (n := 5) (Nat.le_of_ble_eq_true rfl)
  rw [lg_entry_eq]
  generalize (lg_sl ([.ref (q 0), .int (nI 4), .int x0, .int x1]) ++ List.replicate (5 - (lg_sl ([.ref (q 0), .int (nI 4), .int x0, .int x1])).length) Slot.unset).toArray = ls at hl ⊢
  have hl : lv_has ls 5 [(0, .ref (q 0)), (1, .int (nI 4)), (2, .int x0), (3, .int x1)] := hl
  generalize h0H : s.heap = H at hP ⊢
  have hS : va_S (eg_A (wX q cI cJ (nI n) mk lt tg pa an la kn fb fh nb te wt bh)) s.heap H [] := by rw [← h0H]; exact hS
  generalize ([] : List Loc) = locs at hS ⊢
  refine lv_iload_n hx hb dL_of_0 rfl (lv_at hl 1 rfl) ?_
  refine lv_if_ne (tgt := 12) hx hb dL_of_1 (by decide) (fun _ => ?_) (fun h => absurd h (by decide +kernel))
  refine lv_iload_n hx hb dL_of_12 rfl (lv_at hl 1 rfl) ?_
  refine lv_iconst (v := nI 1) hx hb dL_of_13 (by decide +kernel) ?_
  refine lv_icmp_ne (tgt := 25) hx hb dL_of_14 (by decide) (fun _ => ?_) (fun h => absurd h (by decide +kernel))
  refine lv_iload_n hx hb dL_of_25 rfl (lv_at hl 1 rfl) ?_
  refine lv_iconst (v := nI 2) hx hb dL_of_26 (by decide +kernel) ?_
  refine lv_icmp_ne (tgt := 38) hx hb dL_of_27 (by decide) (fun _ => ?_) (fun h => absurd h (by decide +kernel))
  refine lv_iload_n hx hb dL_of_38 rfl (lv_at hl 1 rfl) ?_
  refine lv_iconst (v := nI 3) hx hb dL_of_39 (by decide +kernel) ?_
  refine lv_icmp_ne (tgt := 51) hx hb dL_of_40 (by decide) (fun _ => ?_) (fun h => absurd h (by decide +kernel))
  refine lv_iload_n hx hb dL_of_51 rfl (lv_at hl 1 rfl) ?_
  refine lv_iconst (v := nI 4) hx hb dL_of_52 (by decide +kernel) ?_
  refine lv_icmp_ne (tgt := 65) hx hb dL_of_53 (by decide) (fun h => absurd rfl h) (fun _ => ?_)
  refine lv_aload_n hx hb dL_of_56 rfl (lv_at hl 0 rfl) ?_
  refine lv_iload_n hx hb dL_of_57 rfl (lv_at hl 2 rfl) ?_
  refine lv_iload_n hx hb dL_of_58 rfl (lv_at hl 3 rfl) ?_
  refine eg_callWVc (wr := []) (As := [.int x0, .int x1]) (rest := []) hx hb hml hown hts hK hP hD hS [0, 1, 2, 3, 4, 5, 6, 7, 8, 9, 10, 11, 12] [] rfl rfl (by decide) hM (cwV 2 hts gL_of_X0_letterAt rfl hrm.1 hrm.2.1 (by decide +kernel) ⟨hrm.2.2.1, hrm.2.2.2⟩) (va_recv hK hP (ci := 0) (q0 := 0) rfl rfl) rfl hl.1 rfl (Nat.le_of_ble_eq_true rfl) dL_of_59 ⟨Nat.le_of_ble_eq_true rfl, Nat.le_of_ble_eq_true rfl⟩ (fun v9 w9 H locs hR9 hw9 hP hD hS => ?_)
  obtain ⟨x, rfl⟩ := hRq _ _ hR9
  refine lv_goto (tgt := 85) hx hb dL_of_62 (by decide) ?_
  refine W.widen (k := 1) (n := 6) (by omega) (by omega) ?_
  exact W.iret hx hb hr (fun t9 ht9 _ => ⟨some (.int x), w9, rfl, ⟨x, rfl, hR9⟩, hw9, by rw [ht9]; exact hP, hS.F ht9⟩) hS.2.2 dL_of_85
set_option maxHeartbeats 4000000 in
set_option maxRecDepth 100000 in
theorem wl_of_letterAt_b (l : Launch) (D : va_G) (cI cJ : ClassId) (q : Nat → Nat) (n : Nat) (mk lt tg : Nat → Int32) (pa an la kn : Nat → Int64) (fb : Int32) (fh nb te wt bh : Nat → Int32) (x0 x1 : Int32) {rm : Room} (hrm : rm.cells = 1 ∧ rm.slots = 6 ∧ rm.frames + 1 ≤ 9 ∧ 8 + (3 + 11) + rm.locals ≤ 150) {Rx : va_W → Prop} (hM : eg_MX D (tyL cI cJ) l yX0_letterAt wsX0_letterAt rm [.ref (q 0), .int x0, .int x1] (wX q cI cJ (nI n) mk lt tg pa an la kn fb fh nb te wt bh) "java/lang/IndexOutOfBoundsException" Rx) : eg_MLg D (tyL cI cJ) l yL_of wsL_of rmL [.ref (q 0), .int (nI 4), .int x0, .int x1] (wX q cI cJ (nI n) mk lt tg pa an la kn fb fh nb te wt bh) (fun r w1 => r = some (.int (-8)) ∧ Rx w1) 1 := by
  refine eg_ofWH (cc := cL_of) (maxL := 5) (ret := (some .int)) (hh := [(0, 85, 86, 14)]) (by decide) rfl ?_
  intro p e s m args below meth c s₁ B hml htb hv
  obtain ⟨rfl, hP, hK, hD0, hT⟩ := hv
  have hx := B.exec
  have hb := B.bytes
  have hr := B.returns
  have hts := atoms_spec (ws := wsL_of) B.pre
  have hown : s.vm.findClass RL = some m.cls := findClass_of_methodNamed B.named
  have hlocks := B.notSynchronized
  have hD := eg_D_of hD0
  have hS : va_S (eg_A (wX q cI cJ (nI n) mk lt tg pa an la kn fb fh nb te wt bh)) s.heap s.heap [] := va_S.rf
  have hl := lv_entry ([.ref (q 0), .int (nI 4), .int x0, .int x1]) (n := 5) (Nat.le_of_ble_eq_true rfl)
  rw [lg_entry_eq]
  generalize (lg_sl ([.ref (q 0), .int (nI 4), .int x0, .int x1]) ++ List.replicate (5 - (lg_sl ([.ref (q 0), .int (nI 4), .int x0, .int x1])).length) Slot.unset).toArray = ls at hl ⊢
  have hl : lv_has ls 5 [(0, .ref (q 0)), (1, .int (nI 4)), (2, .int x0), (3, .int x1)] := hl
  generalize h0H : s.heap = H at hP ⊢
  have hS : va_S (eg_A (wX q cI cJ (nI n) mk lt tg pa an la kn fb fh nb te wt bh)) s.heap H [] := by rw [← h0H]; exact hS
  generalize ([] : List Loc) = locs at hS ⊢
  refine lv_iload_n hx hb dL_of_0 rfl (lv_at hl 1 rfl) ?_
  refine lv_if_ne (tgt := 12) hx hb dL_of_1 (by decide) (fun _ => ?_) (fun h => absurd h (by decide +kernel))
  refine lv_iload_n hx hb dL_of_12 rfl (lv_at hl 1 rfl) ?_
  refine lv_iconst (v := nI 1) hx hb dL_of_13 (by decide +kernel) ?_
  refine lv_icmp_ne (tgt := 25) hx hb dL_of_14 (by decide) (fun _ => ?_) (fun h => absurd h (by decide +kernel))
  refine lv_iload_n hx hb dL_of_25 rfl (lv_at hl 1 rfl) ?_
  refine lv_iconst (v := nI 2) hx hb dL_of_26 (by decide +kernel) ?_
  refine lv_icmp_ne (tgt := 38) hx hb dL_of_27 (by decide) (fun _ => ?_) (fun h => absurd h (by decide +kernel))
  refine lv_iload_n hx hb dL_of_38 rfl (lv_at hl 1 rfl) ?_
  refine lv_iconst (v := nI 3) hx hb dL_of_39 (by decide +kernel) ?_
  refine lv_icmp_ne (tgt := 51) hx hb dL_of_40 (by decide) (fun _ => ?_) (fun h => absurd h (by decide +kernel))
  refine lv_iload_n hx hb dL_of_51 rfl (lv_at hl 1 rfl) ?_
  refine lv_iconst (v := nI 4) hx hb dL_of_52 (by decide +kernel) ?_
  refine lv_icmp_ne (tgt := 65) hx hb dL_of_53 (by decide) (fun h => absurd rfl h) (fun _ => ?_)
  refine lv_aload_n hx hb dL_of_56 rfl (lv_at hl 0 rfl) ?_
  refine lv_iload_n hx hb dL_of_57 rfl (lv_at hl 2 rfl) ?_
  refine lv_iload_n hx hb dL_of_58 rfl (lv_at hl 3 rfl) ?_
  refine eg_callX (wr := []) (As := [.int x0, .int x1]) (rest := []) hx hb hml hown hts hK hP hD hS hT [0, 1, 2, 3, 4, 5, 6, 7, 8, 9, 10, 11, 12] [] rfl rfl (by decide) hM (cwV 2 hts gL_of_X0_letterAt rfl hrm.1 hrm.2.1 (by decide +kernel) ⟨hrm.2.2.1, hrm.2.2.2⟩) (va_recv hK hP (ci := 0) (q0 := 0) rfl rfl) rfl hl.1 rfl (Nat.le_of_ble_eq_true rfl) dL_of_59 ⟨Nat.le_of_ble_eq_true rfl, Nat.le_of_ble_eq_true rfl⟩ (fun w9 H1 locs q9 ce hg9 hR9 hw9 hP hD hS hc1 hc2 hc3 => ?_)
  refine vx_catch (own := RL) (name := "java/lang/IndexOutOfBoundsException") hown [] ⟨0, 85, 86, 14⟩ [] (htb.trans rfl) (fun z hz => absurd hz List.not_mem_nil) (by decide) (by decide) (hts (.classLink RL 14 "java/lang/IndexOutOfBoundsException") (by decide +kernel)) (va_Nw.use rfl hT.1.2.2.2.2.1) hc1 hc2 hc3 ?_
  refine lv_astore (lv' := [(4, .ref q9), (0, .ref (q 0)), (1, .int (nI 4)), (2, .int x0), (3, .int x1)]) hx hb dL_of_86 hl (by decide) rfl (fun ls hl => ?_)
  refine lv_bipush (v := -8) hx hb dL_of_88 (by decide +kernel) ?_
  exact W.iret hx hb hr (fun t9 ht9 _ => ⟨⟨some (.int (-8)), w9, rfl, ⟨rfl, hR9⟩, hw9, by rw [ht9]; exact hP, hS.F ht9⟩, by rw [ht9, h0H]; exact hg9⟩) hS.2.2 dL_of_90
set_option maxHeartbeats 4000000 in
set_option maxRecDepth 100000 in
theorem wl_of_letterByList (l : Launch) (D : va_G) (cI cJ : ClassId) (q : Nat → Nat) (n : Nat) (mk lt tg : Nat → Int32) (pa an la kn : Nat → Int64) (fb : Int32) (fh nb te wt bh : Nat → Int32) (x0 x1 : Int32) {rm : Room} (hrm : rm.cells = 0 ∧ rm.slots = 0 ∧ rm.frames + 1 ≤ 9 ∧ 8 + (4 + 11) + rm.locals ≤ 150) {Rq : Option Value → va_W → Prop} (hM : eg_MW D (tyL cI cJ) l yX0_letterByList wsX0_letterByList rm 0 0 [.ref (q 0), .int x0, .int x1] (wX q cI cJ (nI n) mk lt tg pa an la kn fb fh nb te wt bh) Rq) (hRq : ∀ v w1, Rq v w1 → ∃ x : Int32, v = some (.int x)) : eg_ML D (tyL cI cJ) l yL_of wsL_of rmL [.ref (q 0), .int (nI 5), .int x0, .int x1] (wX q cI cJ (nI n) mk lt tg pa an la kn fb fh nb te wt bh) (fun r w1 => ∃ x : Int32, r = some (.int x) ∧ Rq (some (.int x)) w1) := by
  refine eg_ofWH (cc := cL_of) (maxL := 5) (ret := (some .int)) (hh := [(0, 85, 86, 14)]) (by decide) rfl ?_
  intro p e s m args below meth c s₁ B hml htb hv
  obtain ⟨rfl, hP, hK, hD0, hT⟩ := hv
  have hx := B.exec
  have hb := B.bytes
  have hr := B.returns
  have hts := atoms_spec (ws := wsL_of) B.pre
  have hown : s.vm.findClass RL = some m.cls := findClass_of_methodNamed B.named
  have hlocks := B.notSynchronized
  have hD := eg_D_of hD0
  have hS : va_S (eg_A (wX q cI cJ (nI n) mk lt tg pa an la kn fb fh nb te wt bh)) s.heap s.heap [] := va_S.rf
  have hl := lv_entry ([.ref (q 0), .int (nI 5), .int x0, .int x1]) (n := 5) (Nat.le_of_ble_eq_true rfl)
  rw [lg_entry_eq]
  generalize (lg_sl ([.ref (q 0), .int (nI 5), .int x0, .int x1]) ++ List.replicate (5 - (lg_sl ([.ref (q 0), .int (nI 5), .int x0, .int x1])).length) Slot.unset).toArray = ls at hl ⊢
  have hl : lv_has ls 5 [(0, .ref (q 0)), (1, .int (nI 5)), (2, .int x0), (3, .int x1)] := hl
  generalize h0H : s.heap = H at hP ⊢
  have hS : va_S (eg_A (wX q cI cJ (nI n) mk lt tg pa an la kn fb fh nb te wt bh)) s.heap H [] := by rw [← h0H]; exact hS
  generalize ([] : List Loc) = locs at hS ⊢
  refine lv_iload_n hx hb dL_of_0 rfl (lv_at hl 1 rfl) ?_
  refine lv_if_ne (tgt := 12) hx hb dL_of_1 (by decide) (fun _ => ?_) (fun h => absurd h (by decide +kernel))
  refine lv_iload_n hx hb dL_of_12 rfl (lv_at hl 1 rfl) ?_
  refine lv_iconst (v := nI 1) hx hb dL_of_13 (by decide +kernel) ?_
  refine lv_icmp_ne (tgt := 25) hx hb dL_of_14 (by decide) (fun _ => ?_) (fun h => absurd h (by decide +kernel))
  refine lv_iload_n hx hb dL_of_25 rfl (lv_at hl 1 rfl) ?_
  refine lv_iconst (v := nI 2) hx hb dL_of_26 (by decide +kernel) ?_
  refine lv_icmp_ne (tgt := 38) hx hb dL_of_27 (by decide) (fun _ => ?_) (fun h => absurd h (by decide +kernel))
  refine lv_iload_n hx hb dL_of_38 rfl (lv_at hl 1 rfl) ?_
  refine lv_iconst (v := nI 3) hx hb dL_of_39 (by decide +kernel) ?_
  refine lv_icmp_ne (tgt := 51) hx hb dL_of_40 (by decide) (fun _ => ?_) (fun h => absurd h (by decide +kernel))
  refine lv_iload_n hx hb dL_of_51 rfl (lv_at hl 1 rfl) ?_
  refine lv_iconst (v := nI 4) hx hb dL_of_52 (by decide +kernel) ?_
  refine lv_icmp_ne (tgt := 65) hx hb dL_of_53 (by decide) (fun _ => ?_) (fun h => absurd h (by decide +kernel))
  refine lv_iload_n hx hb dL_of_65 rfl (lv_at hl 1 rfl) ?_
  refine lv_iconst (v := nI 5) hx hb dL_of_66 (by decide +kernel) ?_
  refine lv_icmp_ne (tgt := 79) hx hb dL_of_67 (by decide) (fun h => absurd rfl h) (fun _ => ?_)
  refine lv_aload_n hx hb dL_of_70 rfl (lv_at hl 0 rfl) ?_
  refine lv_iload_n hx hb dL_of_71 rfl (lv_at hl 2 rfl) ?_
  refine lv_iload_n hx hb dL_of_72 rfl (lv_at hl 3 rfl) ?_
  refine eg_callWVc (wr := []) (As := [.int x0, .int x1]) (rest := []) hx hb hml hown hts hK hP hD hS [0, 1, 2, 3, 4, 5, 6, 7, 8, 9, 10, 11, 12] [] rfl rfl (by decide) hM (cwV 2 hts gL_of_X0_letterByList rfl hrm.1 hrm.2.1 (by decide +kernel) ⟨hrm.2.2.1, hrm.2.2.2⟩) (va_recv hK hP (ci := 0) (q0 := 0) rfl rfl) rfl hl.1 rfl (Nat.le_of_ble_eq_true rfl) dL_of_73 ⟨Nat.le_of_ble_eq_true rfl, Nat.le_of_ble_eq_true rfl⟩ (fun v9 w9 H locs hR9 hw9 hP hD hS => ?_)
  obtain ⟨x, rfl⟩ := hRq _ _ hR9
  refine lv_goto (tgt := 85) hx hb dL_of_76 (by decide) ?_
  refine W.widen (k := 1) (n := 6) (by omega) (by omega) ?_
  exact W.iret hx hb hr (fun t9 ht9 _ => ⟨some (.int x), w9, rfl, ⟨x, rfl, hR9⟩, hw9, by rw [ht9]; exact hP, hS.F ht9⟩) hS.2.2 dL_of_85
set_option maxHeartbeats 4000000 in
set_option maxRecDepth 100000 in
theorem wl_of_letterByList_b (l : Launch) (D : va_G) (cI cJ : ClassId) (q : Nat → Nat) (n : Nat) (mk lt tg : Nat → Int32) (pa an la kn : Nat → Int64) (fb : Int32) (fh nb te wt bh : Nat → Int32) (x0 x1 : Int32) {rm : Room} (hrm : rm.cells = 1 ∧ rm.slots = 6 ∧ rm.frames + 1 ≤ 9 ∧ 8 + (4 + 11) + rm.locals ≤ 150) {Rx : va_W → Prop} (hM : eg_MX D (tyL cI cJ) l yX0_letterByList wsX0_letterByList rm [.ref (q 0), .int x0, .int x1] (wX q cI cJ (nI n) mk lt tg pa an la kn fb fh nb te wt bh) "java/lang/IndexOutOfBoundsException" Rx) : eg_MLg D (tyL cI cJ) l yL_of wsL_of rmL [.ref (q 0), .int (nI 5), .int x0, .int x1] (wX q cI cJ (nI n) mk lt tg pa an la kn fb fh nb te wt bh) (fun r w1 => r = some (.int (-8)) ∧ Rx w1) 1 := by
  refine eg_ofWH (cc := cL_of) (maxL := 5) (ret := (some .int)) (hh := [(0, 85, 86, 14)]) (by decide) rfl ?_
  intro p e s m args below meth c s₁ B hml htb hv
  obtain ⟨rfl, hP, hK, hD0, hT⟩ := hv
  have hx := B.exec
  have hb := B.bytes
  have hr := B.returns
  have hts := atoms_spec (ws := wsL_of) B.pre
  have hown : s.vm.findClass RL = some m.cls := findClass_of_methodNamed B.named
  have hlocks := B.notSynchronized
  have hD := eg_D_of hD0
  have hS : va_S (eg_A (wX q cI cJ (nI n) mk lt tg pa an la kn fb fh nb te wt bh)) s.heap s.heap [] := va_S.rf
  have hl := lv_entry ([.ref (q 0), .int (nI 5), .int x0, .int x1]) (n := 5) (Nat.le_of_ble_eq_true rfl)
  rw [lg_entry_eq]
  generalize (lg_sl ([.ref (q 0), .int (nI 5), .int x0, .int x1]) ++ List.replicate (5 - (lg_sl ([.ref (q 0), .int (nI 5), .int x0, .int x1])).length) Slot.unset).toArray = ls at hl ⊢
  have hl : lv_has ls 5 [(0, .ref (q 0)), (1, .int (nI 5)), (2, .int x0), (3, .int x1)] := hl
  generalize h0H : s.heap = H at hP ⊢
  have hS : va_S (eg_A (wX q cI cJ (nI n) mk lt tg pa an la kn fb fh nb te wt bh)) s.heap H [] := by rw [← h0H]; exact hS
  generalize ([] : List Loc) = locs at hS ⊢
  refine lv_iload_n hx hb dL_of_0 rfl (lv_at hl 1 rfl) ?_
  refine lv_if_ne (tgt := 12) hx hb dL_of_1 (by decide) (fun _ => ?_) (fun h => absurd h (by decide +kernel))
  refine lv_iload_n hx hb dL_of_12 rfl (lv_at hl 1 rfl) ?_
  refine lv_iconst (v := nI 1) hx hb dL_of_13 (by decide +kernel) ?_
  refine lv_icmp_ne (tgt := 25) hx hb dL_of_14 (by decide) (fun _ => ?_) (fun h => absurd h (by decide +kernel))
  refine lv_iload_n hx hb dL_of_25 rfl (lv_at hl 1 rfl) ?_
  refine lv_iconst (v := nI 2) hx hb dL_of_26 (by decide +kernel) ?_
  refine lv_icmp_ne (tgt := 38) hx hb dL_of_27 (by decide) (fun _ => ?_) (fun h => absurd h (by decide +kernel))
  refine lv_iload_n hx hb dL_of_38 rfl (lv_at hl 1 rfl) ?_
  refine lv_iconst (v := nI 3) hx hb dL_of_39 (by decide +kernel) ?_
  refine lv_icmp_ne (tgt := 51) hx hb dL_of_40 (by decide) (fun _ => ?_) (fun h => absurd h (by decide +kernel))
  refine lv_iload_n hx hb dL_of_51 rfl (lv_at hl 1 rfl) ?_
  refine lv_iconst (v := nI 4) hx hb dL_of_52 (by decide +kernel) ?_
  refine lv_icmp_ne (tgt := 65) hx hb dL_of_53 (by decide) (fun _ => ?_) (fun h => absurd h (by decide +kernel))
  refine lv_iload_n hx hb dL_of_65 rfl (lv_at hl 1 rfl) ?_
  refine lv_iconst (v := nI 5) hx hb dL_of_66 (by decide +kernel) ?_
  refine lv_icmp_ne (tgt := 79) hx hb dL_of_67 (by decide) (fun h => absurd rfl h) (fun _ => ?_)
  refine lv_aload_n hx hb dL_of_70 rfl (lv_at hl 0 rfl) ?_
  refine lv_iload_n hx hb dL_of_71 rfl (lv_at hl 2 rfl) ?_
  refine lv_iload_n hx hb dL_of_72 rfl (lv_at hl 3 rfl) ?_
  refine eg_callX (wr := []) (As := [.int x0, .int x1]) (rest := []) hx hb hml hown hts hK hP hD hS hT [0, 1, 2, 3, 4, 5, 6, 7, 8, 9, 10, 11, 12] [] rfl rfl (by decide) hM (cwV 2 hts gL_of_X0_letterByList rfl hrm.1 hrm.2.1 (by decide +kernel) ⟨hrm.2.2.1, hrm.2.2.2⟩) (va_recv hK hP (ci := 0) (q0 := 0) rfl rfl) rfl hl.1 rfl (Nat.le_of_ble_eq_true rfl) dL_of_73 ⟨Nat.le_of_ble_eq_true rfl, Nat.le_of_ble_eq_true rfl⟩ (fun w9 H1 locs q9 ce hg9 hR9 hw9 hP hD hS hc1 hc2 hc3 => ?_)
  refine vx_catch (own := RL) (name := "java/lang/IndexOutOfBoundsException") hown [] ⟨0, 85, 86, 14⟩ [] (htb.trans rfl) (fun z hz => absurd hz List.not_mem_nil) (by decide) (by decide) (hts (.classLink RL 14 "java/lang/IndexOutOfBoundsException") (by decide +kernel)) (va_Nw.use rfl hT.1.2.2.2.2.1) hc1 hc2 hc3 ?_
  refine lv_astore (lv' := [(4, .ref q9), (0, .ref (q 0)), (1, .int (nI 5)), (2, .int x0), (3, .int x1)]) hx hb dL_of_86 hl (by decide) rfl (fun ls hl => ?_)
  refine lv_bipush (v := -8) hx hb dL_of_88 (by decide +kernel) ?_
  exact W.iret hx hb hr (fun t9 ht9 _ => ⟨⟨some (.int (-8)), w9, rfl, ⟨rfl, hR9⟩, hw9, by rw [ht9]; exact hP, hS.F ht9⟩, by rw [ht9, h0H]; exact hg9⟩) hS.2.2 dL_of_90
set_option maxHeartbeats 4000000 in
set_option maxRecDepth 100000 in
theorem wl_of_eventAt (l : Launch) (D : va_G) (cI cJ : ClassId) (q : Nat → Nat) (n : Nat) (mk lt tg : Nat → Int32) (pa an la kn : Nat → Int64) (fb : Int32) (fh nb te wt bh : Nat → Int32) (x0 x1 : Int32) {rm : Room} (hrm : rm.cells = 0 ∧ rm.slots = 0 ∧ rm.frames + 1 ≤ 9 ∧ 8 + (3 + 11) + rm.locals ≤ 150) {Rq : Option Value → va_W → Prop} (hM : eg_MW D (tyL cI cJ) l yX0_eventAt wsX0_eventAt rm 0 0 [.ref (q 0), .int x0, .int x1] (wX q cI cJ (nI n) mk lt tg pa an la kn fb fh nb te wt bh) Rq) (hRq : ∀ v w1, Rq v w1 → ∃ x : Int32, v = some (.int x)) : eg_ML D (tyL cI cJ) l yL_of wsL_of rmL [.ref (q 0), .int (nI 6), .int x0, .int x1] (wX q cI cJ (nI n) mk lt tg pa an la kn fb fh nb te wt bh) (fun r w1 => ∃ x : Int32, r = some (.int x) ∧ Rq (some (.int x)) w1) := by
  refine eg_ofWH (cc := cL_of) (maxL := 5) (ret := (some .int)) (hh := [(0, 85, 86, 14)]) (by decide) rfl ?_
  intro p e s m args below meth c s₁ B hml htb hv
  obtain ⟨rfl, hP, hK, hD0, hT⟩ := hv
  have hx := B.exec
  have hb := B.bytes
  have hr := B.returns
  have hts := atoms_spec (ws := wsL_of) B.pre
  have hown : s.vm.findClass RL = some m.cls := findClass_of_methodNamed B.named
  have hlocks := B.notSynchronized
  have hD := eg_D_of hD0
  have hS : va_S (eg_A (wX q cI cJ (nI n) mk lt tg pa an la kn fb fh nb te wt bh)) s.heap s.heap [] := va_S.rf
  have hl := lv_entry ([.ref (q 0), .int (nI 6), .int x0, .int x1]) (n := 5) (Nat.le_of_ble_eq_true rfl)
  rw [lg_entry_eq]
  generalize (lg_sl ([.ref (q 0), .int (nI 6), .int x0, .int x1]) ++ List.replicate (5 - (lg_sl ([.ref (q 0), .int (nI 6), .int x0, .int x1])).length) Slot.unset).toArray = ls at hl ⊢
  have hl : lv_has ls 5 [(0, .ref (q 0)), (1, .int (nI 6)), (2, .int x0), (3, .int x1)] := hl
  generalize h0H : s.heap = H at hP ⊢
  have hS : va_S (eg_A (wX q cI cJ (nI n) mk lt tg pa an la kn fb fh nb te wt bh)) s.heap H [] := by rw [← h0H]; exact hS
  generalize ([] : List Loc) = locs at hS ⊢
  refine lv_iload_n hx hb dL_of_0 rfl (lv_at hl 1 rfl) ?_
  refine lv_if_ne (tgt := 12) hx hb dL_of_1 (by decide) (fun _ => ?_) (fun h => absurd h (by decide +kernel))
  refine lv_iload_n hx hb dL_of_12 rfl (lv_at hl 1 rfl) ?_
  refine lv_iconst (v := nI 1) hx hb dL_of_13 (by decide +kernel) ?_
  refine lv_icmp_ne (tgt := 25) hx hb dL_of_14 (by decide) (fun _ => ?_) (fun h => absurd h (by decide +kernel))
  refine lv_iload_n hx hb dL_of_25 rfl (lv_at hl 1 rfl) ?_
  refine lv_iconst (v := nI 2) hx hb dL_of_26 (by decide +kernel) ?_
  refine lv_icmp_ne (tgt := 38) hx hb dL_of_27 (by decide) (fun _ => ?_) (fun h => absurd h (by decide +kernel))
  refine lv_iload_n hx hb dL_of_38 rfl (lv_at hl 1 rfl) ?_
  refine lv_iconst (v := nI 3) hx hb dL_of_39 (by decide +kernel) ?_
  refine lv_icmp_ne (tgt := 51) hx hb dL_of_40 (by decide) (fun _ => ?_) (fun h => absurd h (by decide +kernel))
  refine lv_iload_n hx hb dL_of_51 rfl (lv_at hl 1 rfl) ?_
  refine lv_iconst (v := nI 4) hx hb dL_of_52 (by decide +kernel) ?_
  refine lv_icmp_ne (tgt := 65) hx hb dL_of_53 (by decide) (fun _ => ?_) (fun h => absurd h (by decide +kernel))
  refine lv_iload_n hx hb dL_of_65 rfl (lv_at hl 1 rfl) ?_
  refine lv_iconst (v := nI 5) hx hb dL_of_66 (by decide +kernel) ?_
  refine lv_icmp_ne (tgt := 79) hx hb dL_of_67 (by decide) (fun _ => ?_) (fun h => absurd h (by decide +kernel))
  refine lv_aload_n hx hb dL_of_79 rfl (lv_at hl 0 rfl) ?_
  refine lv_iload_n hx hb dL_of_80 rfl (lv_at hl 2 rfl) ?_
  refine lv_iload_n hx hb dL_of_81 rfl (lv_at hl 3 rfl) ?_
  refine eg_callWVc (wr := []) (As := [.int x0, .int x1]) (rest := []) hx hb hml hown hts hK hP hD hS [0, 1, 2, 3, 4, 5, 6, 7, 8, 9, 10, 11, 12] [] rfl rfl (by decide) hM (cwV 2 hts gL_of_X0_eventAt rfl hrm.1 hrm.2.1 (by decide +kernel) ⟨hrm.2.2.1, hrm.2.2.2⟩) (va_recv hK hP (ci := 0) (q0 := 0) rfl rfl) rfl hl.1 rfl (Nat.le_of_ble_eq_true rfl) dL_of_82 ⟨Nat.le_of_ble_eq_true rfl, Nat.le_of_ble_eq_true rfl⟩ (fun v9 w9 H locs hR9 hw9 hP hD hS => ?_)
  obtain ⟨x, rfl⟩ := hRq _ _ hR9
  refine W.widen (k := 1) (n := 6) (by omega) (by omega) ?_
  exact W.iret hx hb hr (fun t9 ht9 _ => ⟨some (.int x), w9, rfl, ⟨x, rfl, hR9⟩, hw9, by rw [ht9]; exact hP, hS.F ht9⟩) hS.2.2 dL_of_85
set_option maxHeartbeats 4000000 in
set_option maxRecDepth 100000 in
theorem wl_of_eventAt_b (l : Launch) (D : va_G) (cI cJ : ClassId) (q : Nat → Nat) (n : Nat) (mk lt tg : Nat → Int32) (pa an la kn : Nat → Int64) (fb : Int32) (fh nb te wt bh : Nat → Int32) (x0 x1 : Int32) {rm : Room} (hrm : rm.cells = 1 ∧ rm.slots = 6 ∧ rm.frames + 1 ≤ 9 ∧ 8 + (3 + 11) + rm.locals ≤ 150) {Rx : va_W → Prop} (hM : eg_MX D (tyL cI cJ) l yX0_eventAt wsX0_eventAt rm [.ref (q 0), .int x0, .int x1] (wX q cI cJ (nI n) mk lt tg pa an la kn fb fh nb te wt bh) "java/lang/IndexOutOfBoundsException" Rx) : eg_MLg D (tyL cI cJ) l yL_of wsL_of rmL [.ref (q 0), .int (nI 6), .int x0, .int x1] (wX q cI cJ (nI n) mk lt tg pa an la kn fb fh nb te wt bh) (fun r w1 => r = some (.int (-8)) ∧ Rx w1) 1 := by
  refine eg_ofWH (cc := cL_of) (maxL := 5) (ret := (some .int)) (hh := [(0, 85, 86, 14)]) (by decide) rfl ?_
  intro p e s m args below meth c s₁ B hml htb hv
  obtain ⟨rfl, hP, hK, hD0, hT⟩ := hv
  have hx := B.exec
  have hb := B.bytes
  have hr := B.returns
  have hts := atoms_spec (ws := wsL_of) B.pre
  have hown : s.vm.findClass RL = some m.cls := findClass_of_methodNamed B.named
  have hlocks := B.notSynchronized
  have hD := eg_D_of hD0
  have hS : va_S (eg_A (wX q cI cJ (nI n) mk lt tg pa an la kn fb fh nb te wt bh)) s.heap s.heap [] := va_S.rf
  have hl := lv_entry ([.ref (q 0), .int (nI 6), .int x0, .int x1]) (n := 5) (Nat.le_of_ble_eq_true rfl)
  rw [lg_entry_eq]
  generalize (lg_sl ([.ref (q 0), .int (nI 6), .int x0, .int x1]) ++ List.replicate (5 - (lg_sl ([.ref (q 0), .int (nI 6), .int x0, .int x1])).length) Slot.unset).toArray = ls at hl ⊢
  have hl : lv_has ls 5 [(0, .ref (q 0)), (1, .int (nI 6)), (2, .int x0), (3, .int x1)] := hl
  generalize h0H : s.heap = H at hP ⊢
  have hS : va_S (eg_A (wX q cI cJ (nI n) mk lt tg pa an la kn fb fh nb te wt bh)) s.heap H [] := by rw [← h0H]; exact hS
  generalize ([] : List Loc) = locs at hS ⊢
  refine lv_iload_n hx hb dL_of_0 rfl (lv_at hl 1 rfl) ?_
  refine lv_if_ne (tgt := 12) hx hb dL_of_1 (by decide) (fun _ => ?_) (fun h => absurd h (by decide +kernel))
  refine lv_iload_n hx hb dL_of_12 rfl (lv_at hl 1 rfl) ?_
  refine lv_iconst (v := nI 1) hx hb dL_of_13 (by decide +kernel) ?_
  refine lv_icmp_ne (tgt := 25) hx hb dL_of_14 (by decide) (fun _ => ?_) (fun h => absurd h (by decide +kernel))
  refine lv_iload_n hx hb dL_of_25 rfl (lv_at hl 1 rfl) ?_
  refine lv_iconst (v := nI 2) hx hb dL_of_26 (by decide +kernel) ?_
  refine lv_icmp_ne (tgt := 38) hx hb dL_of_27 (by decide) (fun _ => ?_) (fun h => absurd h (by decide +kernel))
  refine lv_iload_n hx hb dL_of_38 rfl (lv_at hl 1 rfl) ?_
  refine lv_iconst (v := nI 3) hx hb dL_of_39 (by decide +kernel) ?_
  refine lv_icmp_ne (tgt := 51) hx hb dL_of_40 (by decide) (fun _ => ?_) (fun h => absurd h (by decide +kernel))
  refine lv_iload_n hx hb dL_of_51 rfl (lv_at hl 1 rfl) ?_
  refine lv_iconst (v := nI 4) hx hb dL_of_52 (by decide +kernel) ?_
  refine lv_icmp_ne (tgt := 65) hx hb dL_of_53 (by decide) (fun _ => ?_) (fun h => absurd h (by decide +kernel))
  refine lv_iload_n hx hb dL_of_65 rfl (lv_at hl 1 rfl) ?_
  refine lv_iconst (v := nI 5) hx hb dL_of_66 (by decide +kernel) ?_
  refine lv_icmp_ne (tgt := 79) hx hb dL_of_67 (by decide) (fun _ => ?_) (fun h => absurd h (by decide +kernel))
  refine lv_aload_n hx hb dL_of_79 rfl (lv_at hl 0 rfl) ?_
  refine lv_iload_n hx hb dL_of_80 rfl (lv_at hl 2 rfl) ?_
  refine lv_iload_n hx hb dL_of_81 rfl (lv_at hl 3 rfl) ?_
  refine eg_callX (wr := []) (As := [.int x0, .int x1]) (rest := []) hx hb hml hown hts hK hP hD hS hT [0, 1, 2, 3, 4, 5, 6, 7, 8, 9, 10, 11, 12] [] rfl rfl (by decide) hM (cwV 2 hts gL_of_X0_eventAt rfl hrm.1 hrm.2.1 (by decide +kernel) ⟨hrm.2.2.1, hrm.2.2.2⟩) (va_recv hK hP (ci := 0) (q0 := 0) rfl rfl) rfl hl.1 rfl (Nat.le_of_ble_eq_true rfl) dL_of_82 ⟨Nat.le_of_ble_eq_true rfl, Nat.le_of_ble_eq_true rfl⟩ (fun w9 H1 locs q9 ce hg9 hR9 hw9 hP hD hS hc1 hc2 hc3 => ?_)
  refine vx_catch (own := RL) (name := "java/lang/IndexOutOfBoundsException") hown [] ⟨0, 85, 86, 14⟩ [] (htb.trans rfl) (fun z hz => absurd hz List.not_mem_nil) (by decide) (by decide) (hts (.classLink RL 14 "java/lang/IndexOutOfBoundsException") (by decide +kernel)) (va_Nw.use rfl hT.1.2.2.2.2.1) hc1 hc2 hc3 ?_
  refine lv_astore (lv' := [(4, .ref q9), (0, .ref (q 0)), (1, .int (nI 6)), (2, .int x0), (3, .int x1)]) hx hb dL_of_86 hl (by decide) rfl (fun ls hl => ?_)
  refine lv_bipush (v := -8) hx hb dL_of_88 (by decide +kernel) ?_
  exact W.iret hx hb hr (fun t9 ht9 _ => ⟨⟨some (.int (-8)), w9, rfl, ⟨rfl, hR9⟩, hw9, by rw [ht9]; exact hP, hS.F ht9⟩, by rw [ht9, h0H]; exact hg9⟩) hS.2.2 dL_of_90
set_option maxHeartbeats 4000000 in
set_option maxRecDepth 100000 in
theorem wl_set_version (l : Launch) (D : va_G) (cI cJ : ClassId) (q : Nat → Nat) (n : Nat) (mk lt tg : Nat → Int32) (pa an la kn : Nat → Int64) (fb : Int32) (fh nb te wt bh : Nat → Int32) (x0 x1 : Int32) {rm : Room} (hrm : rm.cells = 0 ∧ rm.slots = 0 ∧ rm.frames + 1 ≤ 9 ∧ 8 + (2 + 11) + rm.locals ≤ 150) {Rq : Option Value → va_W → Prop} (hM : eg_MW D (tyL cI cJ) l yX0_version wsX0_version rm 0 0 [.ref (q 0), .int x0] (wX q cI cJ (nI n) mk lt tg pa an la kn fb fh nb te wt bh) Rq) (hRq : ∀ v w1, Rq v w1 → ∃ x : Int64, v = some (.long x)) : eg_ML D (tyL cI cJ) l yL_set wsL_set rmL [.ref (q 0), .int (nI 0), .int x0, .int x1] (wX q cI cJ (nI n) mk lt tg pa an la kn fb fh nb te wt bh) (fun r w1 => ∃ x : Int64, r = some (.long x) ∧ Rq (some (.long x)) w1) := by
  refine eg_ofWH (cc := cL_set) (maxL := 5) (ret := (some .long)) (hh := [(0, 59, 60, 14)]) (by decide) rfl ?_
  intro p e s m args below meth c s₁ B hml htb hv
  obtain ⟨rfl, hP, hK, hD0, hT⟩ := hv
  have hx := B.exec
  have hb := B.bytes
  have hr := B.returns
  have hts := atoms_spec (ws := wsL_set) B.pre
  have hown : s.vm.findClass RL = some m.cls := findClass_of_methodNamed B.named
  have hlocks := B.notSynchronized
  have hD := eg_D_of hD0
  have hS : va_S (eg_A (wX q cI cJ (nI n) mk lt tg pa an la kn fb fh nb te wt bh)) s.heap s.heap [] := va_S.rf
  have hl := lv_entry ([.ref (q 0), .int (nI 0), .int x0, .int x1]) (n := 5) (Nat.le_of_ble_eq_true rfl)
  rw [lg_entry_eq]
  generalize (lg_sl ([.ref (q 0), .int (nI 0), .int x0, .int x1]) ++ List.replicate (5 - (lg_sl ([.ref (q 0), .int (nI 0), .int x0, .int x1])).length) Slot.unset).toArray = ls at hl ⊢
  have hl : lv_has ls 5 [(0, .ref (q 0)), (1, .int (nI 0)), (2, .int x0), (3, .int x1)] := hl
  generalize h0H : s.heap = H at hP ⊢
  have hS : va_S (eg_A (wX q cI cJ (nI n) mk lt tg pa an la kn fb fh nb te wt bh)) s.heap H [] := by rw [← h0H]; exact hS
  generalize ([] : List Loc) = locs at hS ⊢
  refine lv_iload_n hx hb dL_set_0 rfl (lv_at hl 1 rfl) ?_
  refine lv_if_ne (tgt := 12) hx hb dL_set_1 (by decide) (fun h => absurd nI_0 h) (fun _ => ?_)
  refine lv_aload_n hx hb dL_set_4 rfl (lv_at hl 0 rfl) ?_
  refine lv_iload_n hx hb dL_set_5 rfl (lv_at hl 2 rfl) ?_
  refine eg_callWVc (wr := []) (As := [.int x0]) (rest := []) hx hb hml hown hts hK hP hD hS [0, 1, 2, 3, 4, 5, 6, 7, 8, 9, 10, 11, 12] [] rfl rfl (by decide) hM (cwV 1 hts gL_set_X0_version rfl hrm.1 hrm.2.1 (by decide +kernel) ⟨hrm.2.2.1, hrm.2.2.2⟩) (va_recv hK hP (ci := 0) (q0 := 0) rfl rfl) rfl hl.1 rfl (Nat.le_of_ble_eq_true rfl) dL_set_6 ⟨Nat.le_of_ble_eq_true rfl, Nat.le_of_ble_eq_true rfl⟩ (fun v9 w9 H locs hR9 hw9 hP hD hS => ?_)
  obtain ⟨x, rfl⟩ := hRq _ _ hR9
  refine lv_goto (tgt := 59) hx hb dL_set_9 (by decide) ?_
  refine W.widen (k := 1) (n := 6) (by omega) (by omega) ?_
  exact W.lret hx hb hr (fun t9 ht9 _ => ⟨some (.long x), w9, rfl, ⟨x, rfl, hR9⟩, hw9, by rw [ht9]; exact hP, hS.F ht9⟩) hS.2.2 dL_set_59
set_option maxHeartbeats 4000000 in
set_option maxRecDepth 100000 in
theorem wl_set_version_b (l : Launch) (D : va_G) (cI cJ : ClassId) (q : Nat → Nat) (n : Nat) (mk lt tg : Nat → Int32) (pa an la kn : Nat → Int64) (fb : Int32) (fh nb te wt bh : Nat → Int32) (x0 x1 : Int32) {rm : Room} (hrm : rm.cells = 1 ∧ rm.slots = 6 ∧ rm.frames + 1 ≤ 9 ∧ 8 + (2 + 11) + rm.locals ≤ 150) {Rx : va_W → Prop} (hM : eg_MX D (tyL cI cJ) l yX0_version wsX0_version rm [.ref (q 0), .int x0] (wX q cI cJ (nI n) mk lt tg pa an la kn fb fh nb te wt bh) "java/lang/IndexOutOfBoundsException" Rx) : eg_MLg D (tyL cI cJ) l yL_set wsL_set rmL [.ref (q 0), .int (nI 0), .int x0, .int x1] (wX q cI cJ (nI n) mk lt tg pa an la kn fb fh nb te wt bh) (fun r w1 => r = some (.long (-8)) ∧ Rx w1) 1 := by
  refine eg_ofWH (cc := cL_set) (maxL := 5) (ret := (some .long)) (hh := [(0, 59, 60, 14)]) (by decide) rfl ?_
  intro p e s m args below meth c s₁ B hml htb hv
  obtain ⟨rfl, hP, hK, hD0, hT⟩ := hv
  have hx := B.exec
  have hb := B.bytes
  have hr := B.returns
  have hts := atoms_spec (ws := wsL_set) B.pre
  have hown : s.vm.findClass RL = some m.cls := findClass_of_methodNamed B.named
  have hlocks := B.notSynchronized
  have hD := eg_D_of hD0
  have hS : va_S (eg_A (wX q cI cJ (nI n) mk lt tg pa an la kn fb fh nb te wt bh)) s.heap s.heap [] := va_S.rf
  have hl := lv_entry ([.ref (q 0), .int (nI 0), .int x0, .int x1]) (n := 5) (Nat.le_of_ble_eq_true rfl)
  rw [lg_entry_eq]
  generalize (lg_sl ([.ref (q 0), .int (nI 0), .int x0, .int x1]) ++ List.replicate (5 - (lg_sl ([.ref (q 0), .int (nI 0), .int x0, .int x1])).length) Slot.unset).toArray = ls at hl ⊢
  have hl : lv_has ls 5 [(0, .ref (q 0)), (1, .int (nI 0)), (2, .int x0), (3, .int x1)] := hl
  generalize h0H : s.heap = H at hP ⊢
  have hS : va_S (eg_A (wX q cI cJ (nI n) mk lt tg pa an la kn fb fh nb te wt bh)) s.heap H [] := by rw [← h0H]; exact hS
  generalize ([] : List Loc) = locs at hS ⊢
  refine lv_iload_n hx hb dL_set_0 rfl (lv_at hl 1 rfl) ?_
  refine lv_if_ne (tgt := 12) hx hb dL_set_1 (by decide) (fun h => absurd nI_0 h) (fun _ => ?_)
  refine lv_aload_n hx hb dL_set_4 rfl (lv_at hl 0 rfl) ?_
  refine lv_iload_n hx hb dL_set_5 rfl (lv_at hl 2 rfl) ?_
  refine eg_callX (wr := []) (As := [.int x0]) (rest := []) hx hb hml hown hts hK hP hD hS hT [0, 1, 2, 3, 4, 5, 6, 7, 8, 9, 10, 11, 12] [] rfl rfl (by decide) hM (cwV 1 hts gL_set_X0_version rfl hrm.1 hrm.2.1 (by decide +kernel) ⟨hrm.2.2.1, hrm.2.2.2⟩) (va_recv hK hP (ci := 0) (q0 := 0) rfl rfl) rfl hl.1 rfl (Nat.le_of_ble_eq_true rfl) dL_set_6 ⟨Nat.le_of_ble_eq_true rfl, Nat.le_of_ble_eq_true rfl⟩ (fun w9 H1 locs q9 ce hg9 hR9 hw9 hP hD hS hc1 hc2 hc3 => ?_)
  refine vx_catch (own := RL) (name := "java/lang/IndexOutOfBoundsException") hown [] ⟨0, 59, 60, 14⟩ [] (htb.trans rfl) (fun z hz => absurd hz List.not_mem_nil) (by decide) (by decide) (hts (.classLink RL 14 "java/lang/IndexOutOfBoundsException") (by decide +kernel)) (va_Nw.use rfl hT.1.2.2.2.2.1) hc1 hc2 hc3 ?_
  refine lv_astore (lv' := [(4, .ref q9), (0, .ref (q 0)), (1, .int (nI 0)), (2, .int x0), (3, .int x1)]) hx hb dL_set_60 hl (by decide) rfl (fun ls hl => ?_)
  refine lv_ldc2 hx hb hown (hts (.constantLong RL 69 (-8)) (by decide +kernel)) dL_set_62 ?_
  exact W.lret hx hb hr (fun t9 ht9 _ => ⟨⟨some (.long (-8)), w9, rfl, ⟨rfl, hR9⟩, hw9, by rw [ht9]; exact hP, hS.F ht9⟩, by rw [ht9, h0H]; exact hg9⟩) hS.2.2 dL_set_65
set_option maxHeartbeats 4000000 in
set_option maxRecDepth 100000 in
theorem wl_set_heads (l : Launch) (D : va_G) (cI cJ : ClassId) (q : Nat → Nat) (n : Nat) (mk lt tg : Nat → Int32) (pa an la kn : Nat → Int64) (fb : Int32) (fh nb te wt bh : Nat → Int32) (x0 x1 : Int32) {rm : Room} (hrm : rm.cells = 0 ∧ rm.slots = 0 ∧ rm.frames + 1 ≤ 9 ∧ 8 + (2 + 11) + rm.locals ≤ 150) {Rq : Option Value → va_W → Prop} (hM : eg_MW D (tyL cI cJ) l yX0_heads wsX0_heads rm 0 0 [.ref (q 0), .int x0] (wX q cI cJ (nI n) mk lt tg pa an la kn fb fh nb te wt bh) Rq) (hRq : ∀ v w1, Rq v w1 → ∃ x : Int64, v = some (.long x)) : eg_ML D (tyL cI cJ) l yL_set wsL_set rmL [.ref (q 0), .int (nI 1), .int x0, .int x1] (wX q cI cJ (nI n) mk lt tg pa an la kn fb fh nb te wt bh) (fun r w1 => ∃ x : Int64, r = some (.long x) ∧ Rq (some (.long x)) w1) := by
  refine eg_ofWH (cc := cL_set) (maxL := 5) (ret := (some .long)) (hh := [(0, 59, 60, 14)]) (by decide) rfl ?_
  intro p e s m args below meth c s₁ B hml htb hv
  obtain ⟨rfl, hP, hK, hD0, hT⟩ := hv
  have hx := B.exec
  have hb := B.bytes
  have hr := B.returns
  have hts := atoms_spec (ws := wsL_set) B.pre
  have hown : s.vm.findClass RL = some m.cls := findClass_of_methodNamed B.named
  have hlocks := B.notSynchronized
  have hD := eg_D_of hD0
  have hS : va_S (eg_A (wX q cI cJ (nI n) mk lt tg pa an la kn fb fh nb te wt bh)) s.heap s.heap [] := va_S.rf
  have hl := lv_entry ([.ref (q 0), .int (nI 1), .int x0, .int x1]) (n := 5) (Nat.le_of_ble_eq_true rfl)
  rw [lg_entry_eq]
  generalize (lg_sl ([.ref (q 0), .int (nI 1), .int x0, .int x1]) ++ List.replicate (5 - (lg_sl ([.ref (q 0), .int (nI 1), .int x0, .int x1])).length) Slot.unset).toArray = ls at hl ⊢
  have hl : lv_has ls 5 [(0, .ref (q 0)), (1, .int (nI 1)), (2, .int x0), (3, .int x1)] := hl
  generalize h0H : s.heap = H at hP ⊢
  have hS : va_S (eg_A (wX q cI cJ (nI n) mk lt tg pa an la kn fb fh nb te wt bh)) s.heap H [] := by rw [← h0H]; exact hS
  generalize ([] : List Loc) = locs at hS ⊢
  refine lv_iload_n hx hb dL_set_0 rfl (lv_at hl 1 rfl) ?_
  refine lv_if_ne (tgt := 12) hx hb dL_set_1 (by decide) (fun _ => ?_) (fun h => absurd h (by decide +kernel))
  refine lv_iload_n hx hb dL_set_12 rfl (lv_at hl 1 rfl) ?_
  refine lv_iconst (v := nI 1) hx hb dL_set_13 (by decide +kernel) ?_
  refine lv_icmp_ne (tgt := 25) hx hb dL_set_14 (by decide) (fun h => absurd rfl h) (fun _ => ?_)
  refine lv_aload_n hx hb dL_set_17 rfl (lv_at hl 0 rfl) ?_
  refine lv_iload_n hx hb dL_set_18 rfl (lv_at hl 2 rfl) ?_
  refine eg_callWVc (wr := []) (As := [.int x0]) (rest := []) hx hb hml hown hts hK hP hD hS [0, 1, 2, 3, 4, 5, 6, 7, 8, 9, 10, 11, 12] [] rfl rfl (by decide) hM (cwV 1 hts gL_set_X0_heads rfl hrm.1 hrm.2.1 (by decide +kernel) ⟨hrm.2.2.1, hrm.2.2.2⟩) (va_recv hK hP (ci := 0) (q0 := 0) rfl rfl) rfl hl.1 rfl (Nat.le_of_ble_eq_true rfl) dL_set_19 ⟨Nat.le_of_ble_eq_true rfl, Nat.le_of_ble_eq_true rfl⟩ (fun v9 w9 H locs hR9 hw9 hP hD hS => ?_)
  obtain ⟨x, rfl⟩ := hRq _ _ hR9
  refine lv_goto (tgt := 59) hx hb dL_set_22 (by decide) ?_
  refine W.widen (k := 1) (n := 6) (by omega) (by omega) ?_
  exact W.lret hx hb hr (fun t9 ht9 _ => ⟨some (.long x), w9, rfl, ⟨x, rfl, hR9⟩, hw9, by rw [ht9]; exact hP, hS.F ht9⟩) hS.2.2 dL_set_59
set_option maxHeartbeats 4000000 in
set_option maxRecDepth 100000 in
theorem wl_set_heads_b (l : Launch) (D : va_G) (cI cJ : ClassId) (q : Nat → Nat) (n : Nat) (mk lt tg : Nat → Int32) (pa an la kn : Nat → Int64) (fb : Int32) (fh nb te wt bh : Nat → Int32) (x0 x1 : Int32) {rm : Room} (hrm : rm.cells = 1 ∧ rm.slots = 6 ∧ rm.frames + 1 ≤ 9 ∧ 8 + (2 + 11) + rm.locals ≤ 150) {Rx : va_W → Prop} (hM : eg_MX D (tyL cI cJ) l yX0_heads wsX0_heads rm [.ref (q 0), .int x0] (wX q cI cJ (nI n) mk lt tg pa an la kn fb fh nb te wt bh) "java/lang/IndexOutOfBoundsException" Rx) : eg_MLg D (tyL cI cJ) l yL_set wsL_set rmL [.ref (q 0), .int (nI 1), .int x0, .int x1] (wX q cI cJ (nI n) mk lt tg pa an la kn fb fh nb te wt bh) (fun r w1 => r = some (.long (-8)) ∧ Rx w1) 1 := by
  refine eg_ofWH (cc := cL_set) (maxL := 5) (ret := (some .long)) (hh := [(0, 59, 60, 14)]) (by decide) rfl ?_
  intro p e s m args below meth c s₁ B hml htb hv
  obtain ⟨rfl, hP, hK, hD0, hT⟩ := hv
  have hx := B.exec
  have hb := B.bytes
  have hr := B.returns
  have hts := atoms_spec (ws := wsL_set) B.pre
  have hown : s.vm.findClass RL = some m.cls := findClass_of_methodNamed B.named
  have hlocks := B.notSynchronized
  have hD := eg_D_of hD0
  have hS : va_S (eg_A (wX q cI cJ (nI n) mk lt tg pa an la kn fb fh nb te wt bh)) s.heap s.heap [] := va_S.rf
  have hl := lv_entry ([.ref (q 0), .int (nI 1), .int x0, .int x1]) (n := 5) (Nat.le_of_ble_eq_true rfl)
  rw [lg_entry_eq]
  generalize (lg_sl ([.ref (q 0), .int (nI 1), .int x0, .int x1]) ++ List.replicate (5 - (lg_sl ([.ref (q 0), .int (nI 1), .int x0, .int x1])).length) Slot.unset).toArray = ls at hl ⊢
  have hl : lv_has ls 5 [(0, .ref (q 0)), (1, .int (nI 1)), (2, .int x0), (3, .int x1)] := hl
  generalize h0H : s.heap = H at hP ⊢
  have hS : va_S (eg_A (wX q cI cJ (nI n) mk lt tg pa an la kn fb fh nb te wt bh)) s.heap H [] := by rw [← h0H]; exact hS
  generalize ([] : List Loc) = locs at hS ⊢
  refine lv_iload_n hx hb dL_set_0 rfl (lv_at hl 1 rfl) ?_
  refine lv_if_ne (tgt := 12) hx hb dL_set_1 (by decide) (fun _ => ?_) (fun h => absurd h (by decide +kernel))
  refine lv_iload_n hx hb dL_set_12 rfl (lv_at hl 1 rfl) ?_
  refine lv_iconst (v := nI 1) hx hb dL_set_13 (by decide +kernel) ?_
  refine lv_icmp_ne (tgt := 25) hx hb dL_set_14 (by decide) (fun h => absurd rfl h) (fun _ => ?_)
  refine lv_aload_n hx hb dL_set_17 rfl (lv_at hl 0 rfl) ?_
  refine lv_iload_n hx hb dL_set_18 rfl (lv_at hl 2 rfl) ?_
  refine eg_callX (wr := []) (As := [.int x0]) (rest := []) hx hb hml hown hts hK hP hD hS hT [0, 1, 2, 3, 4, 5, 6, 7, 8, 9, 10, 11, 12] [] rfl rfl (by decide) hM (cwV 1 hts gL_set_X0_heads rfl hrm.1 hrm.2.1 (by decide +kernel) ⟨hrm.2.2.1, hrm.2.2.2⟩) (va_recv hK hP (ci := 0) (q0 := 0) rfl rfl) rfl hl.1 rfl (Nat.le_of_ble_eq_true rfl) dL_set_19 ⟨Nat.le_of_ble_eq_true rfl, Nat.le_of_ble_eq_true rfl⟩ (fun w9 H1 locs q9 ce hg9 hR9 hw9 hP hD hS hc1 hc2 hc3 => ?_)
  refine vx_catch (own := RL) (name := "java/lang/IndexOutOfBoundsException") hown [] ⟨0, 59, 60, 14⟩ [] (htb.trans rfl) (fun z hz => absurd hz List.not_mem_nil) (by decide) (by decide) (hts (.classLink RL 14 "java/lang/IndexOutOfBoundsException") (by decide +kernel)) (va_Nw.use rfl hT.1.2.2.2.2.1) hc1 hc2 hc3 ?_
  refine lv_astore (lv' := [(4, .ref q9), (0, .ref (q 0)), (1, .int (nI 1)), (2, .int x0), (3, .int x1)]) hx hb dL_set_60 hl (by decide) rfl (fun ls hl => ?_)
  refine lv_ldc2 hx hb hown (hts (.constantLong RL 69 (-8)) (by decide +kernel)) dL_set_62 ?_
  exact W.lret hx hb hr (fun t9 ht9 _ => ⟨⟨some (.long (-8)), w9, rfl, ⟨rfl, hR9⟩, hw9, by rw [ht9]; exact hP, hS.F ht9⟩, by rw [ht9, h0H]; exact hg9⟩) hS.2.2 dL_set_65
set_option maxHeartbeats 4000000 in
set_option maxRecDepth 100000 in
theorem wl_set_critical (l : Launch) (D : va_G) (cI cJ : ClassId) (q : Nat → Nat) (n : Nat) (mk lt tg : Nat → Int32) (pa an la kn : Nat → Int64) (fb : Int32) (fh nb te wt bh : Nat → Int32) (x0 x1 : Int32) {rm : Room} (hrm : rm.cells = 0 ∧ rm.slots = 0 ∧ rm.frames + 1 ≤ 9 ∧ 8 + (2 + 11) + rm.locals ≤ 150) {Rq : Option Value → va_W → Prop} (hM : eg_MW D (tyL cI cJ) l yX0_critical wsX0_critical rm 0 0 [.ref (q 0), .int x0] (wX q cI cJ (nI n) mk lt tg pa an la kn fb fh nb te wt bh) Rq) (hRq : ∀ v w1, Rq v w1 → ∃ x : Int64, v = some (.long x)) : eg_ML D (tyL cI cJ) l yL_set wsL_set rmL [.ref (q 0), .int (nI 2), .int x0, .int x1] (wX q cI cJ (nI n) mk lt tg pa an la kn fb fh nb te wt bh) (fun r w1 => ∃ x : Int64, r = some (.long x) ∧ Rq (some (.long x)) w1) := by
  refine eg_ofWH (cc := cL_set) (maxL := 5) (ret := (some .long)) (hh := [(0, 59, 60, 14)]) (by decide) rfl ?_
  intro p e s m args below meth c s₁ B hml htb hv
  obtain ⟨rfl, hP, hK, hD0, hT⟩ := hv
  have hx := B.exec
  have hb := B.bytes
  have hr := B.returns
  have hts := atoms_spec (ws := wsL_set) B.pre
  have hown : s.vm.findClass RL = some m.cls := findClass_of_methodNamed B.named
  have hlocks := B.notSynchronized
  have hD := eg_D_of hD0
  have hS : va_S (eg_A (wX q cI cJ (nI n) mk lt tg pa an la kn fb fh nb te wt bh)) s.heap s.heap [] := va_S.rf
  have hl := lv_entry ([.ref (q 0), .int (nI 2), .int x0, .int x1]) (n := 5) (Nat.le_of_ble_eq_true rfl)
  rw [lg_entry_eq]
  generalize (lg_sl ([.ref (q 0), .int (nI 2), .int x0, .int x1]) ++ List.replicate (5 - (lg_sl ([.ref (q 0), .int (nI 2), .int x0, .int x1])).length) Slot.unset).toArray = ls at hl ⊢
  have hl : lv_has ls 5 [(0, .ref (q 0)), (1, .int (nI 2)), (2, .int x0), (3, .int x1)] := hl
  generalize h0H : s.heap = H at hP ⊢
  have hS : va_S (eg_A (wX q cI cJ (nI n) mk lt tg pa an la kn fb fh nb te wt bh)) s.heap H [] := by rw [← h0H]; exact hS
  generalize ([] : List Loc) = locs at hS ⊢
  refine lv_iload_n hx hb dL_set_0 rfl (lv_at hl 1 rfl) ?_
  refine lv_if_ne (tgt := 12) hx hb dL_set_1 (by decide) (fun _ => ?_) (fun h => absurd h (by decide +kernel))
  refine lv_iload_n hx hb dL_set_12 rfl (lv_at hl 1 rfl) ?_
  refine lv_iconst (v := nI 1) hx hb dL_set_13 (by decide +kernel) ?_
  refine lv_icmp_ne (tgt := 25) hx hb dL_set_14 (by decide) (fun _ => ?_) (fun h => absurd h (by decide +kernel))
  refine lv_iload_n hx hb dL_set_25 rfl (lv_at hl 1 rfl) ?_
  refine lv_iconst (v := nI 2) hx hb dL_set_26 (by decide +kernel) ?_
  refine lv_icmp_ne (tgt := 38) hx hb dL_set_27 (by decide) (fun h => absurd rfl h) (fun _ => ?_)
  refine lv_aload_n hx hb dL_set_30 rfl (lv_at hl 0 rfl) ?_
  refine lv_iload_n hx hb dL_set_31 rfl (lv_at hl 2 rfl) ?_
  refine eg_callWVc (wr := []) (As := [.int x0]) (rest := []) hx hb hml hown hts hK hP hD hS [0, 1, 2, 3, 4, 5, 6, 7, 8, 9, 10, 11, 12] [] rfl rfl (by decide) hM (cwV 1 hts gL_set_X0_critical rfl hrm.1 hrm.2.1 (by decide +kernel) ⟨hrm.2.2.1, hrm.2.2.2⟩) (va_recv hK hP (ci := 0) (q0 := 0) rfl rfl) rfl hl.1 rfl (Nat.le_of_ble_eq_true rfl) dL_set_32 ⟨Nat.le_of_ble_eq_true rfl, Nat.le_of_ble_eq_true rfl⟩ (fun v9 w9 H locs hR9 hw9 hP hD hS => ?_)
  obtain ⟨x, rfl⟩ := hRq _ _ hR9
  refine lv_goto (tgt := 59) hx hb dL_set_35 (by decide) ?_
  refine W.widen (k := 1) (n := 6) (by omega) (by omega) ?_
  exact W.lret hx hb hr (fun t9 ht9 _ => ⟨some (.long x), w9, rfl, ⟨x, rfl, hR9⟩, hw9, by rw [ht9]; exact hP, hS.F ht9⟩) hS.2.2 dL_set_59
set_option maxHeartbeats 4000000 in
set_option maxRecDepth 100000 in
theorem wl_set_critical_b (l : Launch) (D : va_G) (cI cJ : ClassId) (q : Nat → Nat) (n : Nat) (mk lt tg : Nat → Int32) (pa an la kn : Nat → Int64) (fb : Int32) (fh nb te wt bh : Nat → Int32) (x0 x1 : Int32) {rm : Room} (hrm : rm.cells = 1 ∧ rm.slots = 6 ∧ rm.frames + 1 ≤ 9 ∧ 8 + (2 + 11) + rm.locals ≤ 150) {Rx : va_W → Prop} (hM : eg_MX D (tyL cI cJ) l yX0_critical wsX0_critical rm [.ref (q 0), .int x0] (wX q cI cJ (nI n) mk lt tg pa an la kn fb fh nb te wt bh) "java/lang/IndexOutOfBoundsException" Rx) : eg_MLg D (tyL cI cJ) l yL_set wsL_set rmL [.ref (q 0), .int (nI 2), .int x0, .int x1] (wX q cI cJ (nI n) mk lt tg pa an la kn fb fh nb te wt bh) (fun r w1 => r = some (.long (-8)) ∧ Rx w1) 1 := by
  refine eg_ofWH (cc := cL_set) (maxL := 5) (ret := (some .long)) (hh := [(0, 59, 60, 14)]) (by decide) rfl ?_
  intro p e s m args below meth c s₁ B hml htb hv
  obtain ⟨rfl, hP, hK, hD0, hT⟩ := hv
  have hx := B.exec
  have hb := B.bytes
  have hr := B.returns
  have hts := atoms_spec (ws := wsL_set) B.pre
  have hown : s.vm.findClass RL = some m.cls := findClass_of_methodNamed B.named
  have hlocks := B.notSynchronized
  have hD := eg_D_of hD0
  have hS : va_S (eg_A (wX q cI cJ (nI n) mk lt tg pa an la kn fb fh nb te wt bh)) s.heap s.heap [] := va_S.rf
  have hl := lv_entry ([.ref (q 0), .int (nI 2), .int x0, .int x1]) (n := 5) (Nat.le_of_ble_eq_true rfl)
  rw [lg_entry_eq]
  generalize (lg_sl ([.ref (q 0), .int (nI 2), .int x0, .int x1]) ++ List.replicate (5 - (lg_sl ([.ref (q 0), .int (nI 2), .int x0, .int x1])).length) Slot.unset).toArray = ls at hl ⊢
  have hl : lv_has ls 5 [(0, .ref (q 0)), (1, .int (nI 2)), (2, .int x0), (3, .int x1)] := hl
  generalize h0H : s.heap = H at hP ⊢
  have hS : va_S (eg_A (wX q cI cJ (nI n) mk lt tg pa an la kn fb fh nb te wt bh)) s.heap H [] := by rw [← h0H]; exact hS
  generalize ([] : List Loc) = locs at hS ⊢
  refine lv_iload_n hx hb dL_set_0 rfl (lv_at hl 1 rfl) ?_
  refine lv_if_ne (tgt := 12) hx hb dL_set_1 (by decide) (fun _ => ?_) (fun h => absurd h (by decide +kernel))
  refine lv_iload_n hx hb dL_set_12 rfl (lv_at hl 1 rfl) ?_
  refine lv_iconst (v := nI 1) hx hb dL_set_13 (by decide +kernel) ?_
  refine lv_icmp_ne (tgt := 25) hx hb dL_set_14 (by decide) (fun _ => ?_) (fun h => absurd h (by decide +kernel))
  refine lv_iload_n hx hb dL_set_25 rfl (lv_at hl 1 rfl) ?_
  refine lv_iconst (v := nI 2) hx hb dL_set_26 (by decide +kernel) ?_
  refine lv_icmp_ne (tgt := 38) hx hb dL_set_27 (by decide) (fun h => absurd rfl h) (fun _ => ?_)
  refine lv_aload_n hx hb dL_set_30 rfl (lv_at hl 0 rfl) ?_
  refine lv_iload_n hx hb dL_set_31 rfl (lv_at hl 2 rfl) ?_
  refine eg_callX (wr := []) (As := [.int x0]) (rest := []) hx hb hml hown hts hK hP hD hS hT [0, 1, 2, 3, 4, 5, 6, 7, 8, 9, 10, 11, 12] [] rfl rfl (by decide) hM (cwV 1 hts gL_set_X0_critical rfl hrm.1 hrm.2.1 (by decide +kernel) ⟨hrm.2.2.1, hrm.2.2.2⟩) (va_recv hK hP (ci := 0) (q0 := 0) rfl rfl) rfl hl.1 rfl (Nat.le_of_ble_eq_true rfl) dL_set_32 ⟨Nat.le_of_ble_eq_true rfl, Nat.le_of_ble_eq_true rfl⟩ (fun w9 H1 locs q9 ce hg9 hR9 hw9 hP hD hS hc1 hc2 hc3 => ?_)
  refine vx_catch (own := RL) (name := "java/lang/IndexOutOfBoundsException") hown [] ⟨0, 59, 60, 14⟩ [] (htb.trans rfl) (fun z hz => absurd hz List.not_mem_nil) (by decide) (by decide) (hts (.classLink RL 14 "java/lang/IndexOutOfBoundsException") (by decide +kernel)) (va_Nw.use rfl hT.1.2.2.2.2.1) hc1 hc2 hc3 ?_
  refine lv_astore (lv' := [(4, .ref q9), (0, .ref (q 0)), (1, .int (nI 2)), (2, .int x0), (3, .int x1)]) hx hb dL_set_60 hl (by decide) rfl (fun ls hl => ?_)
  refine lv_ldc2 hx hb hown (hts (.constantLong RL 69 (-8)) (by decide +kernel)) dL_set_62 ?_
  exact W.lret hx hb hr (fun t9 ht9 _ => ⟨⟨some (.long (-8)), w9, rfl, ⟨rfl, hR9⟩, hw9, by rw [ht9]; exact hP, hS.F ht9⟩, by rw [ht9, h0H]; exact hg9⟩) hS.2.2 dL_set_65
set_option maxHeartbeats 4000000 in
set_option maxRecDepth 100000 in
theorem wl_set_commonHeads (l : Launch) (D : va_G) (cI cJ : ClassId) (q : Nat → Nat) (n : Nat) (mk lt tg : Nat → Int32) (pa an la kn : Nat → Int64) (fb : Int32) (fh nb te wt bh : Nat → Int32) (x0 x1 : Int32) {rm : Room} (hrm : rm.cells = 0 ∧ rm.slots = 0 ∧ rm.frames + 1 ≤ 9 ∧ 8 + (3 + 11) + rm.locals ≤ 150) {Rq : Option Value → va_W → Prop} (hM : eg_MW D (tyL cI cJ) l yX0_commonHeads wsX0_commonHeads rm 0 0 [.ref (q 0), .int x0, .int x1] (wX q cI cJ (nI n) mk lt tg pa an la kn fb fh nb te wt bh) Rq) (hRq : ∀ v w1, Rq v w1 → ∃ x : Int64, v = some (.long x)) : eg_ML D (tyL cI cJ) l yL_set wsL_set rmL [.ref (q 0), .int (nI 3), .int x0, .int x1] (wX q cI cJ (nI n) mk lt tg pa an la kn fb fh nb te wt bh) (fun r w1 => ∃ x : Int64, r = some (.long x) ∧ Rq (some (.long x)) w1) := by
  refine eg_ofWH (cc := cL_set) (maxL := 5) (ret := (some .long)) (hh := [(0, 59, 60, 14)]) (by decide) rfl ?_
  intro p e s m args below meth c s₁ B hml htb hv
  obtain ⟨rfl, hP, hK, hD0, hT⟩ := hv
  have hx := B.exec
  have hb := B.bytes
  have hr := B.returns
  have hts := atoms_spec (ws := wsL_set) B.pre
  have hown : s.vm.findClass RL = some m.cls := findClass_of_methodNamed B.named
  have hlocks := B.notSynchronized
  have hD := eg_D_of hD0
  have hS : va_S (eg_A (wX q cI cJ (nI n) mk lt tg pa an la kn fb fh nb te wt bh)) s.heap s.heap [] := va_S.rf
  have hl := lv_entry ([.ref (q 0), .int (nI 3), .int x0, .int x1]) (n := 5) (Nat.le_of_ble_eq_true rfl)
  rw [lg_entry_eq]
  generalize (lg_sl ([.ref (q 0), .int (nI 3), .int x0, .int x1]) ++ List.replicate (5 - (lg_sl ([.ref (q 0), .int (nI 3), .int x0, .int x1])).length) Slot.unset).toArray = ls at hl ⊢
  have hl : lv_has ls 5 [(0, .ref (q 0)), (1, .int (nI 3)), (2, .int x0), (3, .int x1)] := hl
  generalize h0H : s.heap = H at hP ⊢
  have hS : va_S (eg_A (wX q cI cJ (nI n) mk lt tg pa an la kn fb fh nb te wt bh)) s.heap H [] := by rw [← h0H]; exact hS
  generalize ([] : List Loc) = locs at hS ⊢
  refine lv_iload_n hx hb dL_set_0 rfl (lv_at hl 1 rfl) ?_
  refine lv_if_ne (tgt := 12) hx hb dL_set_1 (by decide) (fun _ => ?_) (fun h => absurd h (by decide +kernel))
  refine lv_iload_n hx hb dL_set_12 rfl (lv_at hl 1 rfl) ?_
  refine lv_iconst (v := nI 1) hx hb dL_set_13 (by decide +kernel) ?_
  refine lv_icmp_ne (tgt := 25) hx hb dL_set_14 (by decide) (fun _ => ?_) (fun h => absurd h (by decide +kernel))
  refine lv_iload_n hx hb dL_set_25 rfl (lv_at hl 1 rfl) ?_
  refine lv_iconst (v := nI 2) hx hb dL_set_26 (by decide +kernel) ?_
  refine lv_icmp_ne (tgt := 38) hx hb dL_set_27 (by decide) (fun _ => ?_) (fun h => absurd h (by decide +kernel))
  refine lv_iload_n hx hb dL_set_38 rfl (lv_at hl 1 rfl) ?_
  refine lv_iconst (v := nI 3) hx hb dL_set_39 (by decide +kernel) ?_
  refine lv_icmp_ne (tgt := 52) hx hb dL_set_40 (by decide) (fun h => absurd rfl h) (fun _ => ?_)
  refine lv_aload_n hx hb dL_set_43 rfl (lv_at hl 0 rfl) ?_
  refine lv_iload_n hx hb dL_set_44 rfl (lv_at hl 2 rfl) ?_
  refine lv_iload_n hx hb dL_set_45 rfl (lv_at hl 3 rfl) ?_
  refine eg_callWVc (wr := []) (As := [.int x0, .int x1]) (rest := []) hx hb hml hown hts hK hP hD hS [0, 1, 2, 3, 4, 5, 6, 7, 8, 9, 10, 11, 12] [] rfl rfl (by decide) hM (cwV 2 hts gL_set_X0_commonHeads rfl hrm.1 hrm.2.1 (by decide +kernel) ⟨hrm.2.2.1, hrm.2.2.2⟩) (va_recv hK hP (ci := 0) (q0 := 0) rfl rfl) rfl hl.1 rfl (Nat.le_of_ble_eq_true rfl) dL_set_46 ⟨Nat.le_of_ble_eq_true rfl, Nat.le_of_ble_eq_true rfl⟩ (fun v9 w9 H locs hR9 hw9 hP hD hS => ?_)
  obtain ⟨x, rfl⟩ := hRq _ _ hR9
  refine lv_goto (tgt := 59) hx hb dL_set_49 (by decide) ?_
  refine W.widen (k := 1) (n := 6) (by omega) (by omega) ?_
  exact W.lret hx hb hr (fun t9 ht9 _ => ⟨some (.long x), w9, rfl, ⟨x, rfl, hR9⟩, hw9, by rw [ht9]; exact hP, hS.F ht9⟩) hS.2.2 dL_set_59
set_option maxHeartbeats 4000000 in
set_option maxRecDepth 100000 in
theorem wl_set_commonHeads_b (l : Launch) (D : va_G) (cI cJ : ClassId) (q : Nat → Nat) (n : Nat) (mk lt tg : Nat → Int32) (pa an la kn : Nat → Int64) (fb : Int32) (fh nb te wt bh : Nat → Int32) (x0 x1 : Int32) {rm : Room} (hrm : rm.cells = 1 ∧ rm.slots = 6 ∧ rm.frames + 1 ≤ 9 ∧ 8 + (3 + 11) + rm.locals ≤ 150) {Rx : va_W → Prop} (hM : eg_MX D (tyL cI cJ) l yX0_commonHeads wsX0_commonHeads rm [.ref (q 0), .int x0, .int x1] (wX q cI cJ (nI n) mk lt tg pa an la kn fb fh nb te wt bh) "java/lang/IndexOutOfBoundsException" Rx) : eg_MLg D (tyL cI cJ) l yL_set wsL_set rmL [.ref (q 0), .int (nI 3), .int x0, .int x1] (wX q cI cJ (nI n) mk lt tg pa an la kn fb fh nb te wt bh) (fun r w1 => r = some (.long (-8)) ∧ Rx w1) 1 := by
  refine eg_ofWH (cc := cL_set) (maxL := 5) (ret := (some .long)) (hh := [(0, 59, 60, 14)]) (by decide) rfl ?_
  intro p e s m args below meth c s₁ B hml htb hv
  obtain ⟨rfl, hP, hK, hD0, hT⟩ := hv
  have hx := B.exec
  have hb := B.bytes
  have hr := B.returns
  have hts := atoms_spec (ws := wsL_set) B.pre
  have hown : s.vm.findClass RL = some m.cls := findClass_of_methodNamed B.named
  have hlocks := B.notSynchronized
  have hD := eg_D_of hD0
  have hS : va_S (eg_A (wX q cI cJ (nI n) mk lt tg pa an la kn fb fh nb te wt bh)) s.heap s.heap [] := va_S.rf
  have hl := lv_entry ([.ref (q 0), .int (nI 3), .int x0, .int x1]) (n := 5) (Nat.le_of_ble_eq_true rfl)
  rw [lg_entry_eq]
  generalize (lg_sl ([.ref (q 0), .int (nI 3), .int x0, .int x1]) ++ List.replicate (5 - (lg_sl ([.ref (q 0), .int (nI 3), .int x0, .int x1])).length) Slot.unset).toArray = ls at hl ⊢
  have hl : lv_has ls 5 [(0, .ref (q 0)), (1, .int (nI 3)), (2, .int x0), (3, .int x1)] := hl
  generalize h0H : s.heap = H at hP ⊢
  have hS : va_S (eg_A (wX q cI cJ (nI n) mk lt tg pa an la kn fb fh nb te wt bh)) s.heap H [] := by rw [← h0H]; exact hS
  generalize ([] : List Loc) = locs at hS ⊢
  refine lv_iload_n hx hb dL_set_0 rfl (lv_at hl 1 rfl) ?_
  refine lv_if_ne (tgt := 12) hx hb dL_set_1 (by decide) (fun _ => ?_) (fun h => absurd h (by decide +kernel))
  refine lv_iload_n hx hb dL_set_12 rfl (lv_at hl 1 rfl) ?_
  refine lv_iconst (v := nI 1) hx hb dL_set_13 (by decide +kernel) ?_
  refine lv_icmp_ne (tgt := 25) hx hb dL_set_14 (by decide) (fun _ => ?_) (fun h => absurd h (by decide +kernel))
  refine lv_iload_n hx hb dL_set_25 rfl (lv_at hl 1 rfl) ?_
  refine lv_iconst (v := nI 2) hx hb dL_set_26 (by decide +kernel) ?_
  refine lv_icmp_ne (tgt := 38) hx hb dL_set_27 (by decide) (fun _ => ?_) (fun h => absurd h (by decide +kernel))
  refine lv_iload_n hx hb dL_set_38 rfl (lv_at hl 1 rfl) ?_
  refine lv_iconst (v := nI 3) hx hb dL_set_39 (by decide +kernel) ?_
  refine lv_icmp_ne (tgt := 52) hx hb dL_set_40 (by decide) (fun h => absurd rfl h) (fun _ => ?_)
  refine lv_aload_n hx hb dL_set_43 rfl (lv_at hl 0 rfl) ?_
  refine lv_iload_n hx hb dL_set_44 rfl (lv_at hl 2 rfl) ?_
  refine lv_iload_n hx hb dL_set_45 rfl (lv_at hl 3 rfl) ?_
  refine eg_callX (wr := []) (As := [.int x0, .int x1]) (rest := []) hx hb hml hown hts hK hP hD hS hT [0, 1, 2, 3, 4, 5, 6, 7, 8, 9, 10, 11, 12] [] rfl rfl (by decide) hM (cwV 2 hts gL_set_X0_commonHeads rfl hrm.1 hrm.2.1 (by decide +kernel) ⟨hrm.2.2.1, hrm.2.2.2⟩) (va_recv hK hP (ci := 0) (q0 := 0) rfl rfl) rfl hl.1 rfl (Nat.le_of_ble_eq_true rfl) dL_set_46 ⟨Nat.le_of_ble_eq_true rfl, Nat.le_of_ble_eq_true rfl⟩ (fun w9 H1 locs q9 ce hg9 hR9 hw9 hP hD hS hc1 hc2 hc3 => ?_)
  refine vx_catch (own := RL) (name := "java/lang/IndexOutOfBoundsException") hown [] ⟨0, 59, 60, 14⟩ [] (htb.trans rfl) (fun z hz => absurd hz List.not_mem_nil) (by decide) (by decide) (hts (.classLink RL 14 "java/lang/IndexOutOfBoundsException") (by decide +kernel)) (va_Nw.use rfl hT.1.2.2.2.2.1) hc1 hc2 hc3 ?_
  refine lv_astore (lv' := [(4, .ref q9), (0, .ref (q 0)), (1, .int (nI 3)), (2, .int x0), (3, .int x1)]) hx hb dL_set_60 hl (by decide) rfl (fun ls hl => ?_)
  refine lv_ldc2 hx hb hown (hts (.constantLong RL 69 (-8)) (by decide +kernel)) dL_set_62 ?_
  exact W.lret hx hb hr (fun t9 ht9 _ => ⟨⟨some (.long (-8)), w9, rfl, ⟨rfl, hR9⟩, hw9, by rw [ht9]; exact hP, hS.F ht9⟩, by rw [ht9, h0H]; exact hg9⟩) hS.2.2 dL_set_65
set_option maxHeartbeats 4000000 in
set_option maxRecDepth 100000 in
theorem wl_set_lettersBy (l : Launch) (D : va_G) (cI cJ : ClassId) (q : Nat → Nat) (n : Nat) (mk lt tg : Nat → Int32) (pa an la kn : Nat → Int64) (fb : Int32) (fh nb te wt bh : Nat → Int32) (x0 x1 : Int32) {rm : Room} (hrm : rm.cells = 0 ∧ rm.slots = 0 ∧ rm.frames + 1 ≤ 9 ∧ 8 + (6 + 11) + rm.locals ≤ 150) {Rq : Option Value → va_W → Prop} (hM : eg_MW D (tyL cI cJ) l yX0_lettersBy wsX0_lettersBy rm 0 0 [.ref (q 0), .int x0, .int x1] (wX q cI cJ (nI n) mk lt tg pa an la kn fb fh nb te wt bh) Rq) (hRq : ∀ v w1, Rq v w1 → ∃ x : Int32, v = some (.int x)) : eg_ML D (tyL cI cJ) l yL_set wsL_set rmL [.ref (q 0), .int (nI 4), .int x0, .int x1] (wX q cI cJ (nI n) mk lt tg pa an la kn fb fh nb te wt bh) (fun r w1 => ∃ x : Int32, r = some (.long x.toInt64) ∧ Rq (some (.int x)) w1) := by
  refine eg_ofWH (cc := cL_set) (maxL := 5) (ret := (some .long)) (hh := [(0, 59, 60, 14)]) (by decide) rfl ?_
  intro p e s m args below meth c s₁ B hml htb hv
  obtain ⟨rfl, hP, hK, hD0, hT⟩ := hv
  have hx := B.exec
  have hb := B.bytes
  have hr := B.returns
  have hts := atoms_spec (ws := wsL_set) B.pre
  have hown : s.vm.findClass RL = some m.cls := findClass_of_methodNamed B.named
  have hlocks := B.notSynchronized
  have hD := eg_D_of hD0
  have hS : va_S (eg_A (wX q cI cJ (nI n) mk lt tg pa an la kn fb fh nb te wt bh)) s.heap s.heap [] := va_S.rf
  have hl := lv_entry ([.ref (q 0), .int (nI 4), .int x0, .int x1]) (n := 5) (Nat.le_of_ble_eq_true rfl)
  rw [lg_entry_eq]
  generalize (lg_sl ([.ref (q 0), .int (nI 4), .int x0, .int x1]) ++ List.replicate (5 - (lg_sl ([.ref (q 0), .int (nI 4), .int x0, .int x1])).length) Slot.unset).toArray = ls at hl ⊢
  have hl : lv_has ls 5 [(0, .ref (q 0)), (1, .int (nI 4)), (2, .int x0), (3, .int x1)] := hl
  generalize h0H : s.heap = H at hP ⊢
  have hS : va_S (eg_A (wX q cI cJ (nI n) mk lt tg pa an la kn fb fh nb te wt bh)) s.heap H [] := by rw [← h0H]; exact hS
  generalize ([] : List Loc) = locs at hS ⊢
  refine lv_iload_n hx hb dL_set_0 rfl (lv_at hl 1 rfl) ?_
  refine lv_if_ne (tgt := 12) hx hb dL_set_1 (by decide) (fun _ => ?_) (fun h => absurd h (by decide +kernel))
  refine lv_iload_n hx hb dL_set_12 rfl (lv_at hl 1 rfl) ?_
  refine lv_iconst (v := nI 1) hx hb dL_set_13 (by decide +kernel) ?_
  refine lv_icmp_ne (tgt := 25) hx hb dL_set_14 (by decide) (fun _ => ?_) (fun h => absurd h (by decide +kernel))
  refine lv_iload_n hx hb dL_set_25 rfl (lv_at hl 1 rfl) ?_
  refine lv_iconst (v := nI 2) hx hb dL_set_26 (by decide +kernel) ?_
  refine lv_icmp_ne (tgt := 38) hx hb dL_set_27 (by decide) (fun _ => ?_) (fun h => absurd h (by decide +kernel))
  refine lv_iload_n hx hb dL_set_38 rfl (lv_at hl 1 rfl) ?_
  refine lv_iconst (v := nI 3) hx hb dL_set_39 (by decide +kernel) ?_
  refine lv_icmp_ne (tgt := 52) hx hb dL_set_40 (by decide) (fun _ => ?_) (fun h => absurd h (by decide +kernel))
  refine lv_aload_n hx hb dL_set_52 rfl (lv_at hl 0 rfl) ?_
  refine lv_iload_n hx hb dL_set_53 rfl (lv_at hl 2 rfl) ?_
  refine lv_iload_n hx hb dL_set_54 rfl (lv_at hl 3 rfl) ?_
  refine eg_callWVc (wr := []) (As := [.int x0, .int x1]) (rest := []) hx hb hml hown hts hK hP hD hS [0, 1, 2, 3, 4, 5, 6, 7, 8, 9, 10, 11, 12] [] rfl rfl (by decide) hM (cwV 2 hts gL_set_X0_lettersBy rfl hrm.1 hrm.2.1 (by decide +kernel) ⟨hrm.2.2.1, hrm.2.2.2⟩) (va_recv hK hP (ci := 0) (q0 := 0) rfl rfl) rfl hl.1 rfl (Nat.le_of_ble_eq_true rfl) dL_set_55 ⟨Nat.le_of_ble_eq_true rfl, Nat.le_of_ble_eq_true rfl⟩ (fun v9 w9 H locs hR9 hw9 hP hD hS => ?_)
  obtain ⟨x, rfl⟩ := hRq _ _ hR9
  refine lv_i2l (v := x.toInt64) hx hb dL_set_58 rfl ?_
  refine W.widen (k := 1) (n := 6) (by omega) (by omega) ?_
  exact W.lret hx hb hr (fun t9 ht9 _ => ⟨some (.long x.toInt64), w9, rfl, ⟨x, rfl, hR9⟩, hw9, by rw [ht9]; exact hP, hS.F ht9⟩) hS.2.2 dL_set_59
set_option maxHeartbeats 4000000 in
set_option maxRecDepth 100000 in
theorem wl_set_lettersBy_b (l : Launch) (D : va_G) (cI cJ : ClassId) (q : Nat → Nat) (n : Nat) (mk lt tg : Nat → Int32) (pa an la kn : Nat → Int64) (fb : Int32) (fh nb te wt bh : Nat → Int32) (x0 x1 : Int32) {rm : Room} (hrm : rm.cells = 1 ∧ rm.slots = 6 ∧ rm.frames + 1 ≤ 9 ∧ 8 + (6 + 11) + rm.locals ≤ 150) {Rx : va_W → Prop} (hM : eg_MX D (tyL cI cJ) l yX0_lettersBy wsX0_lettersBy rm [.ref (q 0), .int x0, .int x1] (wX q cI cJ (nI n) mk lt tg pa an la kn fb fh nb te wt bh) "java/lang/IndexOutOfBoundsException" Rx) : eg_MLg D (tyL cI cJ) l yL_set wsL_set rmL [.ref (q 0), .int (nI 4), .int x0, .int x1] (wX q cI cJ (nI n) mk lt tg pa an la kn fb fh nb te wt bh) (fun r w1 => r = some (.long (-8)) ∧ Rx w1) 1 := by
  refine eg_ofWH (cc := cL_set) (maxL := 5) (ret := (some .long)) (hh := [(0, 59, 60, 14)]) (by decide) rfl ?_
  intro p e s m args below meth c s₁ B hml htb hv
  obtain ⟨rfl, hP, hK, hD0, hT⟩ := hv
  have hx := B.exec
  have hb := B.bytes
  have hr := B.returns
  have hts := atoms_spec (ws := wsL_set) B.pre
  have hown : s.vm.findClass RL = some m.cls := findClass_of_methodNamed B.named
  have hlocks := B.notSynchronized
  have hD := eg_D_of hD0
  have hS : va_S (eg_A (wX q cI cJ (nI n) mk lt tg pa an la kn fb fh nb te wt bh)) s.heap s.heap [] := va_S.rf
  have hl := lv_entry ([.ref (q 0), .int (nI 4), .int x0, .int x1]) (n := 5) (Nat.le_of_ble_eq_true rfl)
  rw [lg_entry_eq]
  generalize (lg_sl ([.ref (q 0), .int (nI 4), .int x0, .int x1]) ++ List.replicate (5 - (lg_sl ([.ref (q 0), .int (nI 4), .int x0, .int x1])).length) Slot.unset).toArray = ls at hl ⊢
  have hl : lv_has ls 5 [(0, .ref (q 0)), (1, .int (nI 4)), (2, .int x0), (3, .int x1)] := hl
  generalize h0H : s.heap = H at hP ⊢
  have hS : va_S (eg_A (wX q cI cJ (nI n) mk lt tg pa an la kn fb fh nb te wt bh)) s.heap H [] := by rw [← h0H]; exact hS
  generalize ([] : List Loc) = locs at hS ⊢
  refine lv_iload_n hx hb dL_set_0 rfl (lv_at hl 1 rfl) ?_
  refine lv_if_ne (tgt := 12) hx hb dL_set_1 (by decide) (fun _ => ?_) (fun h => absurd h (by decide +kernel))
  refine lv_iload_n hx hb dL_set_12 rfl (lv_at hl 1 rfl) ?_
  refine lv_iconst (v := nI 1) hx hb dL_set_13 (by decide +kernel) ?_
  refine lv_icmp_ne (tgt := 25) hx hb dL_set_14 (by decide) (fun _ => ?_) (fun h => absurd h (by decide +kernel))
  refine lv_iload_n hx hb dL_set_25 rfl (lv_at hl 1 rfl) ?_
  refine lv_iconst (v := nI 2) hx hb dL_set_26 (by decide +kernel) ?_
  refine lv_icmp_ne (tgt := 38) hx hb dL_set_27 (by decide) (fun _ => ?_) (fun h => absurd h (by decide +kernel))
  refine lv_iload_n hx hb dL_set_38 rfl (lv_at hl 1 rfl) ?_
  refine lv_iconst (v := nI 3) hx hb dL_set_39 (by decide +kernel) ?_
  refine lv_icmp_ne (tgt := 52) hx hb dL_set_40 (by decide) (fun _ => ?_) (fun h => absurd h (by decide +kernel))
  refine lv_aload_n hx hb dL_set_52 rfl (lv_at hl 0 rfl) ?_
  refine lv_iload_n hx hb dL_set_53 rfl (lv_at hl 2 rfl) ?_
  refine lv_iload_n hx hb dL_set_54 rfl (lv_at hl 3 rfl) ?_
  refine eg_callX (wr := []) (As := [.int x0, .int x1]) (rest := []) hx hb hml hown hts hK hP hD hS hT [0, 1, 2, 3, 4, 5, 6, 7, 8, 9, 10, 11, 12] [] rfl rfl (by decide) hM (cwV 2 hts gL_set_X0_lettersBy rfl hrm.1 hrm.2.1 (by decide +kernel) ⟨hrm.2.2.1, hrm.2.2.2⟩) (va_recv hK hP (ci := 0) (q0 := 0) rfl rfl) rfl hl.1 rfl (Nat.le_of_ble_eq_true rfl) dL_set_55 ⟨Nat.le_of_ble_eq_true rfl, Nat.le_of_ble_eq_true rfl⟩ (fun w9 H1 locs q9 ce hg9 hR9 hw9 hP hD hS hc1 hc2 hc3 => ?_)
  refine vx_catch (own := RL) (name := "java/lang/IndexOutOfBoundsException") hown [] ⟨0, 59, 60, 14⟩ [] (htb.trans rfl) (fun z hz => absurd hz List.not_mem_nil) (by decide) (by decide) (hts (.classLink RL 14 "java/lang/IndexOutOfBoundsException") (by decide +kernel)) (va_Nw.use rfl hT.1.2.2.2.2.1) hc1 hc2 hc3 ?_
  refine lv_astore (lv' := [(4, .ref q9), (0, .ref (q 0)), (1, .int (nI 4)), (2, .int x0), (3, .int x1)]) hx hb dL_set_60 hl (by decide) rfl (fun ls hl => ?_)
  refine lv_ldc2 hx hb hown (hts (.constantLong RL 69 (-8)) (by decide +kernel)) dL_set_62 ?_
  exact W.lret hx hb hr (fun t9 ht9 _ => ⟨⟨some (.long (-8)), w9, rfl, ⟨rfl, hR9⟩, hw9, by rw [ht9]; exact hP, hS.F ht9⟩, by rw [ht9, h0H]; exact hg9⟩) hS.2.2 dL_set_65
set_option maxHeartbeats 4000000 in
set_option maxRecDepth 100000 in
theorem wl_by_parents (l : Launch) (D : va_G) (cI cJ : ClassId) (q : Nat → Nat) (n : Nat) (mk lt tg : Nat → Int32) (pa an la kn : Nat → Int64) (fb : Int32) (fh nb te wt bh : Nat → Int32) (x0 x1 : Int32) {rm : Room} (hrm : rm.cells = 0 ∧ rm.slots = 0 ∧ rm.frames + 1 ≤ 9 ∧ 8 + (2 + 11) + rm.locals ≤ 150) {Rq : Option Value → va_W → Prop} (hM : eg_MW D (tyL cI cJ) l yX0_parents wsX0_parents rm 0 0 [.ref (q 0), .int x0] (wX q cI cJ (nI n) mk lt tg pa an la kn fb fh nb te wt bh) Rq) (hRq : ∀ v w1, Rq v w1 → ∃ x : Int64, v = some (.long x)) : eg_ML D (tyL cI cJ) l yL_by wsL_by rmL [.ref (q 0), .int (nI 0), .int x0, .int x1] (wX q cI cJ (nI n) mk lt tg pa an la kn fb fh nb te wt bh) (fun r w1 => ∃ x : Int64, r = some (.long x) ∧ Rq (some (.long x)) w1) := by
  refine eg_ofWH (cc := cL_by) (maxL := 5) (ret := (some .long)) (hh := [(0, 69, 70, 14)]) (by decide) rfl ?_
  intro p e s m args below meth c s₁ B hml htb hv
  obtain ⟨rfl, hP, hK, hD0, hT⟩ := hv
  have hx := B.exec
  have hb := B.bytes
  have hr := B.returns
  have hts := atoms_spec (ws := wsL_by) B.pre
  have hown : s.vm.findClass RL = some m.cls := findClass_of_methodNamed B.named
  have hlocks := B.notSynchronized
  have hD := eg_D_of hD0
  have hS : va_S (eg_A (wX q cI cJ (nI n) mk lt tg pa an la kn fb fh nb te wt bh)) s.heap s.heap [] := va_S.rf
  have hl := lv_entry ([.ref (q 0), .int (nI 0), .int x0, .int x1]) (n := 5) (Nat.le_of_ble_eq_true rfl)
  rw [lg_entry_eq]
  generalize (lg_sl ([.ref (q 0), .int (nI 0), .int x0, .int x1]) ++ List.replicate (5 - (lg_sl ([.ref (q 0), .int (nI 0), .int x0, .int x1])).length) Slot.unset).toArray = ls at hl ⊢
  have hl : lv_has ls 5 [(0, .ref (q 0)), (1, .int (nI 0)), (2, .int x0), (3, .int x1)] := hl
  generalize h0H : s.heap = H at hP ⊢
  have hS : va_S (eg_A (wX q cI cJ (nI n) mk lt tg pa an la kn fb fh nb te wt bh)) s.heap H [] := by rw [← h0H]; exact hS
  generalize ([] : List Loc) = locs at hS ⊢
  refine lv_iload_n hx hb dL_by_0 rfl (lv_at hl 1 rfl) ?_
  refine lv_if_ne (tgt := 12) hx hb dL_by_1 (by decide) (fun h => absurd nI_0 h) (fun _ => ?_)
  refine lv_aload_n hx hb dL_by_4 rfl (lv_at hl 0 rfl) ?_
  refine lv_iload_n hx hb dL_by_5 rfl (lv_at hl 2 rfl) ?_
  refine eg_callWVc (wr := []) (As := [.int x0]) (rest := []) hx hb hml hown hts hK hP hD hS [0, 1, 2, 3, 4, 5, 6, 7, 8, 9, 10, 11, 12] [] rfl rfl (by decide) hM (cwV 1 hts gL_by_X0_parents rfl hrm.1 hrm.2.1 (by decide +kernel) ⟨hrm.2.2.1, hrm.2.2.2⟩) (va_recv hK hP (ci := 0) (q0 := 0) rfl rfl) rfl hl.1 rfl (Nat.le_of_ble_eq_true rfl) dL_by_6 ⟨Nat.le_of_ble_eq_true rfl, Nat.le_of_ble_eq_true rfl⟩ (fun v9 w9 H locs hR9 hw9 hP hD hS => ?_)
  obtain ⟨x, rfl⟩ := hRq _ _ hR9
  refine lv_goto (tgt := 69) hx hb dL_by_9 (by decide) ?_
  refine W.widen (k := 1) (n := 6) (by omega) (by omega) ?_
  exact W.lret hx hb hr (fun t9 ht9 _ => ⟨some (.long x), w9, rfl, ⟨x, rfl, hR9⟩, hw9, by rw [ht9]; exact hP, hS.F ht9⟩) hS.2.2 dL_by_69
set_option maxHeartbeats 4000000 in
set_option maxRecDepth 100000 in
theorem wl_by_parents_b (l : Launch) (D : va_G) (cI cJ : ClassId) (q : Nat → Nat) (n : Nat) (mk lt tg : Nat → Int32) (pa an la kn : Nat → Int64) (fb : Int32) (fh nb te wt bh : Nat → Int32) (x0 x1 : Int32) {rm : Room} (hrm : rm.cells = 1 ∧ rm.slots = 6 ∧ rm.frames + 1 ≤ 9 ∧ 8 + (2 + 11) + rm.locals ≤ 150) {Rx : va_W → Prop} (hM : eg_MX D (tyL cI cJ) l yX0_parents wsX0_parents rm [.ref (q 0), .int x0] (wX q cI cJ (nI n) mk lt tg pa an la kn fb fh nb te wt bh) "java/lang/IndexOutOfBoundsException" Rx) : eg_MLg D (tyL cI cJ) l yL_by wsL_by rmL [.ref (q 0), .int (nI 0), .int x0, .int x1] (wX q cI cJ (nI n) mk lt tg pa an la kn fb fh nb te wt bh) (fun r w1 => r = some (.long (-8)) ∧ Rx w1) 1 := by
  refine eg_ofWH (cc := cL_by) (maxL := 5) (ret := (some .long)) (hh := [(0, 69, 70, 14)]) (by decide) rfl ?_
  intro p e s m args below meth c s₁ B hml htb hv
  obtain ⟨rfl, hP, hK, hD0, hT⟩ := hv
  have hx := B.exec
  have hb := B.bytes
  have hr := B.returns
  have hts := atoms_spec (ws := wsL_by) B.pre
  have hown : s.vm.findClass RL = some m.cls := findClass_of_methodNamed B.named
  have hlocks := B.notSynchronized
  have hD := eg_D_of hD0
  have hS : va_S (eg_A (wX q cI cJ (nI n) mk lt tg pa an la kn fb fh nb te wt bh)) s.heap s.heap [] := va_S.rf
  have hl := lv_entry ([.ref (q 0), .int (nI 0), .int x0, .int x1]) (n := 5) (Nat.le_of_ble_eq_true rfl)
  rw [lg_entry_eq]
  generalize (lg_sl ([.ref (q 0), .int (nI 0), .int x0, .int x1]) ++ List.replicate (5 - (lg_sl ([.ref (q 0), .int (nI 0), .int x0, .int x1])).length) Slot.unset).toArray = ls at hl ⊢
  have hl : lv_has ls 5 [(0, .ref (q 0)), (1, .int (nI 0)), (2, .int x0), (3, .int x1)] := hl
  generalize h0H : s.heap = H at hP ⊢
  have hS : va_S (eg_A (wX q cI cJ (nI n) mk lt tg pa an la kn fb fh nb te wt bh)) s.heap H [] := by rw [← h0H]; exact hS
  generalize ([] : List Loc) = locs at hS ⊢
  refine lv_iload_n hx hb dL_by_0 rfl (lv_at hl 1 rfl) ?_
  refine lv_if_ne (tgt := 12) hx hb dL_by_1 (by decide) (fun h => absurd nI_0 h) (fun _ => ?_)
  refine lv_aload_n hx hb dL_by_4 rfl (lv_at hl 0 rfl) ?_
  refine lv_iload_n hx hb dL_by_5 rfl (lv_at hl 2 rfl) ?_
  refine eg_callX (wr := []) (As := [.int x0]) (rest := []) hx hb hml hown hts hK hP hD hS hT [0, 1, 2, 3, 4, 5, 6, 7, 8, 9, 10, 11, 12] [] rfl rfl (by decide) hM (cwV 1 hts gL_by_X0_parents rfl hrm.1 hrm.2.1 (by decide +kernel) ⟨hrm.2.2.1, hrm.2.2.2⟩) (va_recv hK hP (ci := 0) (q0 := 0) rfl rfl) rfl hl.1 rfl (Nat.le_of_ble_eq_true rfl) dL_by_6 ⟨Nat.le_of_ble_eq_true rfl, Nat.le_of_ble_eq_true rfl⟩ (fun w9 H1 locs q9 ce hg9 hR9 hw9 hP hD hS hc1 hc2 hc3 => ?_)
  refine vx_catch (own := RL) (name := "java/lang/IndexOutOfBoundsException") hown [] ⟨0, 69, 70, 14⟩ [] (htb.trans rfl) (fun z hz => absurd hz List.not_mem_nil) (by decide) (by decide) (hts (.classLink RL 14 "java/lang/IndexOutOfBoundsException") (by decide +kernel)) (va_Nw.use rfl hT.1.2.2.2.2.1) hc1 hc2 hc3 ?_
  refine lv_astore (lv' := [(4, .ref q9), (0, .ref (q 0)), (1, .int (nI 0)), (2, .int x0), (3, .int x1)]) hx hb dL_by_70 hl (by decide) rfl (fun ls hl => ?_)
  refine lv_ldc2 hx hb hown (hts (.constantLong RL 69 (-8)) (by decide +kernel)) dL_by_72 ?_
  exact W.lret hx hb hr (fun t9 ht9 _ => ⟨⟨some (.long (-8)), w9, rfl, ⟨rfl, hR9⟩, hw9, by rw [ht9]; exact hP, hS.F ht9⟩, by rw [ht9, h0H]; exact hg9⟩) hS.2.2 dL_by_75
set_option maxHeartbeats 4000000 in
set_option maxRecDepth 100000 in
theorem wl_by_lengthOf (l : Launch) (D : va_G) (cI cJ : ClassId) (q : Nat → Nat) (n : Nat) (mk lt tg : Nat → Int32) (pa an la kn : Nat → Int64) (fb : Int32) (fh nb te wt bh : Nat → Int32) (x0 x1 : Int32) {rm : Room} (hrm : rm.cells = 0 ∧ rm.slots = 0 ∧ rm.frames + 1 ≤ 9 ∧ 8 + (2 + 11) + rm.locals ≤ 150) {Rq : Option Value → va_W → Prop} (hM : eg_MW D (tyL cI cJ) l yX0_lengthOf wsX0_lengthOf rm 0 0 [.ref (q 0), .int x0] (wX q cI cJ (nI n) mk lt tg pa an la kn fb fh nb te wt bh) Rq) (hRq : ∀ v w1, Rq v w1 → ∃ x : Int32, v = some (.int x)) : eg_ML D (tyL cI cJ) l yL_by wsL_by rmL [.ref (q 0), .int (nI 1), .int x0, .int x1] (wX q cI cJ (nI n) mk lt tg pa an la kn fb fh nb te wt bh) (fun r w1 => ∃ x : Int32, r = some (.long x.toInt64) ∧ Rq (some (.int x)) w1) := by
  refine eg_ofWH (cc := cL_by) (maxL := 5) (ret := (some .long)) (hh := [(0, 69, 70, 14)]) (by decide) rfl ?_
  intro p e s m args below meth c s₁ B hml htb hv
  obtain ⟨rfl, hP, hK, hD0, hT⟩ := hv
  have hx := B.exec
  have hb := B.bytes
  have hr := B.returns
  have hts := atoms_spec (ws := wsL_by) B.pre
  have hown : s.vm.findClass RL = some m.cls := findClass_of_methodNamed B.named
  have hlocks := B.notSynchronized
  have hD := eg_D_of hD0
  have hS : va_S (eg_A (wX q cI cJ (nI n) mk lt tg pa an la kn fb fh nb te wt bh)) s.heap s.heap [] := va_S.rf
  have hl := lv_entry ([.ref (q 0), .int (nI 1), .int x0, .int x1]) (n := 5) (Nat.le_of_ble_eq_true rfl)
  rw [lg_entry_eq]
  generalize (lg_sl ([.ref (q 0), .int (nI 1), .int x0, .int x1]) ++ List.replicate (5 - (lg_sl ([.ref (q 0), .int (nI 1), .int x0, .int x1])).length) Slot.unset).toArray = ls at hl ⊢
  have hl : lv_has ls 5 [(0, .ref (q 0)), (1, .int (nI 1)), (2, .int x0), (3, .int x1)] := hl
  generalize h0H : s.heap = H at hP ⊢
  have hS : va_S (eg_A (wX q cI cJ (nI n) mk lt tg pa an la kn fb fh nb te wt bh)) s.heap H [] := by rw [← h0H]; exact hS
  generalize ([] : List Loc) = locs at hS ⊢
  refine lv_iload_n hx hb dL_by_0 rfl (lv_at hl 1 rfl) ?_
  refine lv_if_ne (tgt := 12) hx hb dL_by_1 (by decide) (fun _ => ?_) (fun h => absurd h (by decide +kernel))
  refine lv_iload_n hx hb dL_by_12 rfl (lv_at hl 1 rfl) ?_
  refine lv_iconst (v := nI 1) hx hb dL_by_13 (by decide +kernel) ?_
  refine lv_icmp_ne (tgt := 26) hx hb dL_by_14 (by decide) (fun h => absurd rfl h) (fun _ => ?_)
  refine lv_aload_n hx hb dL_by_17 rfl (lv_at hl 0 rfl) ?_
  refine lv_iload_n hx hb dL_by_18 rfl (lv_at hl 2 rfl) ?_
  refine eg_callWVc (wr := []) (As := [.int x0]) (rest := []) hx hb hml hown hts hK hP hD hS [0, 1, 2, 3, 4, 5, 6, 7, 8, 9, 10, 11, 12] [] rfl rfl (by decide) hM (cwV 1 hts gL_by_X0_lengthOf rfl hrm.1 hrm.2.1 (by decide +kernel) ⟨hrm.2.2.1, hrm.2.2.2⟩) (va_recv hK hP (ci := 0) (q0 := 0) rfl rfl) rfl hl.1 rfl (Nat.le_of_ble_eq_true rfl) dL_by_19 ⟨Nat.le_of_ble_eq_true rfl, Nat.le_of_ble_eq_true rfl⟩ (fun v9 w9 H locs hR9 hw9 hP hD hS => ?_)
  obtain ⟨x, rfl⟩ := hRq _ _ hR9
  refine lv_i2l (v := x.toInt64) hx hb dL_by_22 rfl ?_
  refine lv_goto (tgt := 69) hx hb dL_by_23 (by decide) ?_
  refine W.widen (k := 1) (n := 6) (by omega) (by omega) ?_
  exact W.lret hx hb hr (fun t9 ht9 _ => ⟨some (.long x.toInt64), w9, rfl, ⟨x, rfl, hR9⟩, hw9, by rw [ht9]; exact hP, hS.F ht9⟩) hS.2.2 dL_by_69
set_option maxHeartbeats 4000000 in
set_option maxRecDepth 100000 in
theorem wl_by_lengthOf_b (l : Launch) (D : va_G) (cI cJ : ClassId) (q : Nat → Nat) (n : Nat) (mk lt tg : Nat → Int32) (pa an la kn : Nat → Int64) (fb : Int32) (fh nb te wt bh : Nat → Int32) (x0 x1 : Int32) {rm : Room} (hrm : rm.cells = 1 ∧ rm.slots = 6 ∧ rm.frames + 1 ≤ 9 ∧ 8 + (2 + 11) + rm.locals ≤ 150) {Rx : va_W → Prop} (hM : eg_MX D (tyL cI cJ) l yX0_lengthOf wsX0_lengthOf rm [.ref (q 0), .int x0] (wX q cI cJ (nI n) mk lt tg pa an la kn fb fh nb te wt bh) "java/lang/IndexOutOfBoundsException" Rx) : eg_MLg D (tyL cI cJ) l yL_by wsL_by rmL [.ref (q 0), .int (nI 1), .int x0, .int x1] (wX q cI cJ (nI n) mk lt tg pa an la kn fb fh nb te wt bh) (fun r w1 => r = some (.long (-8)) ∧ Rx w1) 1 := by
  refine eg_ofWH (cc := cL_by) (maxL := 5) (ret := (some .long)) (hh := [(0, 69, 70, 14)]) (by decide) rfl ?_
  intro p e s m args below meth c s₁ B hml htb hv
  obtain ⟨rfl, hP, hK, hD0, hT⟩ := hv
  have hx := B.exec
  have hb := B.bytes
  have hr := B.returns
  have hts := atoms_spec (ws := wsL_by) B.pre
  have hown : s.vm.findClass RL = some m.cls := findClass_of_methodNamed B.named
  have hlocks := B.notSynchronized
  have hD := eg_D_of hD0
  have hS : va_S (eg_A (wX q cI cJ (nI n) mk lt tg pa an la kn fb fh nb te wt bh)) s.heap s.heap [] := va_S.rf
  have hl := lv_entry ([.ref (q 0), .int (nI 1), .int x0, .int x1]) (n := 5) (Nat.le_of_ble_eq_true rfl)
  rw [lg_entry_eq]
  generalize (lg_sl ([.ref (q 0), .int (nI 1), .int x0, .int x1]) ++ List.replicate (5 - (lg_sl ([.ref (q 0), .int (nI 1), .int x0, .int x1])).length) Slot.unset).toArray = ls at hl ⊢
  have hl : lv_has ls 5 [(0, .ref (q 0)), (1, .int (nI 1)), (2, .int x0), (3, .int x1)] := hl
  generalize h0H : s.heap = H at hP ⊢
  have hS : va_S (eg_A (wX q cI cJ (nI n) mk lt tg pa an la kn fb fh nb te wt bh)) s.heap H [] := by rw [← h0H]; exact hS
  generalize ([] : List Loc) = locs at hS ⊢
  refine lv_iload_n hx hb dL_by_0 rfl (lv_at hl 1 rfl) ?_
  refine lv_if_ne (tgt := 12) hx hb dL_by_1 (by decide) (fun _ => ?_) (fun h => absurd h (by decide +kernel))
  refine lv_iload_n hx hb dL_by_12 rfl (lv_at hl 1 rfl) ?_
  refine lv_iconst (v := nI 1) hx hb dL_by_13 (by decide +kernel) ?_
  refine lv_icmp_ne (tgt := 26) hx hb dL_by_14 (by decide) (fun h => absurd rfl h) (fun _ => ?_)
  refine lv_aload_n hx hb dL_by_17 rfl (lv_at hl 0 rfl) ?_
  refine lv_iload_n hx hb dL_by_18 rfl (lv_at hl 2 rfl) ?_
  refine eg_callX (wr := []) (As := [.int x0]) (rest := []) hx hb hml hown hts hK hP hD hS hT [0, 1, 2, 3, 4, 5, 6, 7, 8, 9, 10, 11, 12] [] rfl rfl (by decide) hM (cwV 1 hts gL_by_X0_lengthOf rfl hrm.1 hrm.2.1 (by decide +kernel) ⟨hrm.2.2.1, hrm.2.2.2⟩) (va_recv hK hP (ci := 0) (q0 := 0) rfl rfl) rfl hl.1 rfl (Nat.le_of_ble_eq_true rfl) dL_by_19 ⟨Nat.le_of_ble_eq_true rfl, Nat.le_of_ble_eq_true rfl⟩ (fun w9 H1 locs q9 ce hg9 hR9 hw9 hP hD hS hc1 hc2 hc3 => ?_)
  refine vx_catch (own := RL) (name := "java/lang/IndexOutOfBoundsException") hown [] ⟨0, 69, 70, 14⟩ [] (htb.trans rfl) (fun z hz => absurd hz List.not_mem_nil) (by decide) (by decide) (hts (.classLink RL 14 "java/lang/IndexOutOfBoundsException") (by decide +kernel)) (va_Nw.use rfl hT.1.2.2.2.2.1) hc1 hc2 hc3 ?_
  refine lv_astore (lv' := [(4, .ref q9), (0, .ref (q 0)), (1, .int (nI 1)), (2, .int x0), (3, .int x1)]) hx hb dL_by_70 hl (by decide) rfl (fun ls hl => ?_)
  refine lv_ldc2 hx hb hown (hts (.constantLong RL 69 (-8)) (by decide +kernel)) dL_by_72 ?_
  exact W.lret hx hb hr (fun t9 ht9 _ => ⟨⟨some (.long (-8)), w9, rfl, ⟨rfl, hR9⟩, hw9, by rw [ht9]; exact hP, hS.F ht9⟩, by rw [ht9, h0H]; exact hg9⟩) hS.2.2 dL_by_75
set_option maxHeartbeats 4000000 in
set_option maxRecDepth 100000 in
theorem wl_by_letterOf (l : Launch) (D : va_G) (cI cJ : ClassId) (q : Nat → Nat) (n : Nat) (mk lt tg : Nat → Int32) (pa an la kn : Nat → Int64) (fb : Int32) (fh nb te wt bh : Nat → Int32) (x0 x1 : Int32) {rm : Room} (hrm : rm.cells = 0 ∧ rm.slots = 0 ∧ rm.frames + 1 ≤ 9 ∧ 8 + (3 + 11) + rm.locals ≤ 150) {Rq : Option Value → va_W → Prop} (hM : eg_MW D (tyL cI cJ) l yX0_letterOf wsX0_letterOf rm 0 0 [.ref (q 0), .int x0, .int x1] (wX q cI cJ (nI n) mk lt tg pa an la kn fb fh nb te wt bh) Rq) (hRq : ∀ v w1, Rq v w1 → ∃ x : Int32, v = some (.int x)) : eg_ML D (tyL cI cJ) l yL_by wsL_by rmL [.ref (q 0), .int (nI 2), .int x0, .int x1] (wX q cI cJ (nI n) mk lt tg pa an la kn fb fh nb te wt bh) (fun r w1 => ∃ x : Int32, r = some (.long x.toInt64) ∧ Rq (some (.int x)) w1) := by
  refine eg_ofWH (cc := cL_by) (maxL := 5) (ret := (some .long)) (hh := [(0, 69, 70, 14)]) (by decide) rfl ?_
  intro p e s m args below meth c s₁ B hml htb hv
  obtain ⟨rfl, hP, hK, hD0, hT⟩ := hv
  have hx := B.exec
  have hb := B.bytes
  have hr := B.returns
  have hts := atoms_spec (ws := wsL_by) B.pre
  have hown : s.vm.findClass RL = some m.cls := findClass_of_methodNamed B.named
  have hlocks := B.notSynchronized
  have hD := eg_D_of hD0
  have hS : va_S (eg_A (wX q cI cJ (nI n) mk lt tg pa an la kn fb fh nb te wt bh)) s.heap s.heap [] := va_S.rf
  have hl := lv_entry ([.ref (q 0), .int (nI 2), .int x0, .int x1]) (n := 5) (Nat.le_of_ble_eq_true rfl)
  rw [lg_entry_eq]
  generalize (lg_sl ([.ref (q 0), .int (nI 2), .int x0, .int x1]) ++ List.replicate (5 - (lg_sl ([.ref (q 0), .int (nI 2), .int x0, .int x1])).length) Slot.unset).toArray = ls at hl ⊢
  have hl : lv_has ls 5 [(0, .ref (q 0)), (1, .int (nI 2)), (2, .int x0), (3, .int x1)] := hl
  generalize h0H : s.heap = H at hP ⊢
  have hS : va_S (eg_A (wX q cI cJ (nI n) mk lt tg pa an la kn fb fh nb te wt bh)) s.heap H [] := by rw [← h0H]; exact hS
  generalize ([] : List Loc) = locs at hS ⊢
  refine lv_iload_n hx hb dL_by_0 rfl (lv_at hl 1 rfl) ?_
  refine lv_if_ne (tgt := 12) hx hb dL_by_1 (by decide) (fun _ => ?_) (fun h => absurd h (by decide +kernel))
  refine lv_iload_n hx hb dL_by_12 rfl (lv_at hl 1 rfl) ?_
  refine lv_iconst (v := nI 1) hx hb dL_by_13 (by decide +kernel) ?_
  refine lv_icmp_ne (tgt := 26) hx hb dL_by_14 (by decide) (fun _ => ?_) (fun h => absurd h (by decide +kernel))
  refine lv_iload_n hx hb dL_by_26 rfl (lv_at hl 1 rfl) ?_
  refine lv_iconst (v := nI 2) hx hb dL_by_27 (by decide +kernel) ?_
  refine lv_icmp_ne (tgt := 41) hx hb dL_by_28 (by decide) (fun h => absurd rfl h) (fun _ => ?_)
  refine lv_aload_n hx hb dL_by_31 rfl (lv_at hl 0 rfl) ?_
  refine lv_iload_n hx hb dL_by_32 rfl (lv_at hl 2 rfl) ?_
  refine lv_iload_n hx hb dL_by_33 rfl (lv_at hl 3 rfl) ?_
  refine eg_callWVc (wr := []) (As := [.int x0, .int x1]) (rest := []) hx hb hml hown hts hK hP hD hS [0, 1, 2, 3, 4, 5, 6, 7, 8, 9, 10, 11, 12] [] rfl rfl (by decide) hM (cwV 2 hts gL_by_X0_letterOf rfl hrm.1 hrm.2.1 (by decide +kernel) ⟨hrm.2.2.1, hrm.2.2.2⟩) (va_recv hK hP (ci := 0) (q0 := 0) rfl rfl) rfl hl.1 rfl (Nat.le_of_ble_eq_true rfl) dL_by_34 ⟨Nat.le_of_ble_eq_true rfl, Nat.le_of_ble_eq_true rfl⟩ (fun v9 w9 H locs hR9 hw9 hP hD hS => ?_)
  obtain ⟨x, rfl⟩ := hRq _ _ hR9
  refine lv_i2l (v := x.toInt64) hx hb dL_by_37 rfl ?_
  refine lv_goto (tgt := 69) hx hb dL_by_38 (by decide) ?_
  refine W.widen (k := 1) (n := 6) (by omega) (by omega) ?_
  exact W.lret hx hb hr (fun t9 ht9 _ => ⟨some (.long x.toInt64), w9, rfl, ⟨x, rfl, hR9⟩, hw9, by rw [ht9]; exact hP, hS.F ht9⟩) hS.2.2 dL_by_69
set_option maxHeartbeats 4000000 in
set_option maxRecDepth 100000 in
theorem wl_by_letterOf_b (l : Launch) (D : va_G) (cI cJ : ClassId) (q : Nat → Nat) (n : Nat) (mk lt tg : Nat → Int32) (pa an la kn : Nat → Int64) (fb : Int32) (fh nb te wt bh : Nat → Int32) (x0 x1 : Int32) {rm : Room} (hrm : rm.cells = 1 ∧ rm.slots = 6 ∧ rm.frames + 1 ≤ 9 ∧ 8 + (3 + 11) + rm.locals ≤ 150) {Rx : va_W → Prop} (hM : eg_MX D (tyL cI cJ) l yX0_letterOf wsX0_letterOf rm [.ref (q 0), .int x0, .int x1] (wX q cI cJ (nI n) mk lt tg pa an la kn fb fh nb te wt bh) "java/lang/IndexOutOfBoundsException" Rx) : eg_MLg D (tyL cI cJ) l yL_by wsL_by rmL [.ref (q 0), .int (nI 2), .int x0, .int x1] (wX q cI cJ (nI n) mk lt tg pa an la kn fb fh nb te wt bh) (fun r w1 => r = some (.long (-8)) ∧ Rx w1) 1 := by
  refine eg_ofWH (cc := cL_by) (maxL := 5) (ret := (some .long)) (hh := [(0, 69, 70, 14)]) (by decide) rfl ?_
  intro p e s m args below meth c s₁ B hml htb hv
  obtain ⟨rfl, hP, hK, hD0, hT⟩ := hv
  have hx := B.exec
  have hb := B.bytes
  have hr := B.returns
  have hts := atoms_spec (ws := wsL_by) B.pre
  have hown : s.vm.findClass RL = some m.cls := findClass_of_methodNamed B.named
  have hlocks := B.notSynchronized
  have hD := eg_D_of hD0
  have hS : va_S (eg_A (wX q cI cJ (nI n) mk lt tg pa an la kn fb fh nb te wt bh)) s.heap s.heap [] := va_S.rf
  have hl := lv_entry ([.ref (q 0), .int (nI 2), .int x0, .int x1]) (n := 5) (Nat.le_of_ble_eq_true rfl)
  rw [lg_entry_eq]
  generalize (lg_sl ([.ref (q 0), .int (nI 2), .int x0, .int x1]) ++ List.replicate (5 - (lg_sl ([.ref (q 0), .int (nI 2), .int x0, .int x1])).length) Slot.unset).toArray = ls at hl ⊢
  have hl : lv_has ls 5 [(0, .ref (q 0)), (1, .int (nI 2)), (2, .int x0), (3, .int x1)] := hl
  generalize h0H : s.heap = H at hP ⊢
  have hS : va_S (eg_A (wX q cI cJ (nI n) mk lt tg pa an la kn fb fh nb te wt bh)) s.heap H [] := by rw [← h0H]; exact hS
  generalize ([] : List Loc) = locs at hS ⊢
  refine lv_iload_n hx hb dL_by_0 rfl (lv_at hl 1 rfl) ?_
  refine lv_if_ne (tgt := 12) hx hb dL_by_1 (by decide) (fun _ => ?_) (fun h => absurd h (by decide +kernel))
  refine lv_iload_n hx hb dL_by_12 rfl (lv_at hl 1 rfl) ?_
  refine lv_iconst (v := nI 1) hx hb dL_by_13 (by decide +kernel) ?_
  refine lv_icmp_ne (tgt := 26) hx hb dL_by_14 (by decide) (fun _ => ?_) (fun h => absurd h (by decide +kernel))
  refine lv_iload_n hx hb dL_by_26 rfl (lv_at hl 1 rfl) ?_
  refine lv_iconst (v := nI 2) hx hb dL_by_27 (by decide +kernel) ?_
  refine lv_icmp_ne (tgt := 41) hx hb dL_by_28 (by decide) (fun h => absurd rfl h) (fun _ => ?_)
  refine lv_aload_n hx hb dL_by_31 rfl (lv_at hl 0 rfl) ?_
  refine lv_iload_n hx hb dL_by_32 rfl (lv_at hl 2 rfl) ?_
  refine lv_iload_n hx hb dL_by_33 rfl (lv_at hl 3 rfl) ?_
  refine eg_callX (wr := []) (As := [.int x0, .int x1]) (rest := []) hx hb hml hown hts hK hP hD hS hT [0, 1, 2, 3, 4, 5, 6, 7, 8, 9, 10, 11, 12] [] rfl rfl (by decide) hM (cwV 2 hts gL_by_X0_letterOf rfl hrm.1 hrm.2.1 (by decide +kernel) ⟨hrm.2.2.1, hrm.2.2.2⟩) (va_recv hK hP (ci := 0) (q0 := 0) rfl rfl) rfl hl.1 rfl (Nat.le_of_ble_eq_true rfl) dL_by_34 ⟨Nat.le_of_ble_eq_true rfl, Nat.le_of_ble_eq_true rfl⟩ (fun w9 H1 locs q9 ce hg9 hR9 hw9 hP hD hS hc1 hc2 hc3 => ?_)
  refine vx_catch (own := RL) (name := "java/lang/IndexOutOfBoundsException") hown [] ⟨0, 69, 70, 14⟩ [] (htb.trans rfl) (fun z hz => absurd hz List.not_mem_nil) (by decide) (by decide) (hts (.classLink RL 14 "java/lang/IndexOutOfBoundsException") (by decide +kernel)) (va_Nw.use rfl hT.1.2.2.2.2.1) hc1 hc2 hc3 ?_
  refine lv_astore (lv' := [(4, .ref q9), (0, .ref (q 0)), (1, .int (nI 2)), (2, .int x0), (3, .int x1)]) hx hb dL_by_70 hl (by decide) rfl (fun ls hl => ?_)
  refine lv_ldc2 hx hb hown (hts (.constantLong RL 69 (-8)) (by decide +kernel)) dL_by_72 ?_
  exact W.lret hx hb hr (fun t9 ht9 _ => ⟨⟨some (.long (-8)), w9, rfl, ⟨rfl, hR9⟩, hw9, by rw [ht9]; exact hP, hS.F ht9⟩, by rw [ht9, h0H]; exact hg9⟩) hS.2.2 dL_by_75
set_option maxHeartbeats 4000000 in
set_option maxRecDepth 100000 in
theorem wl_by_isLater (l : Launch) (D : va_G) (cI cJ : ClassId) (q : Nat → Nat) (n : Nat) (mk lt tg : Nat → Int32) (pa an la kn : Nat → Int64) (fb : Int32) (fh nb te wt bh : Nat → Int32) (x0 x1 : Int32) {rm : Room} (hrm : rm.cells = 0 ∧ rm.slots = 0 ∧ rm.frames + 1 ≤ 9 ∧ 8 + (3 + 11) + rm.locals ≤ 150) {Rq : Option Value → va_W → Prop} (hM : eg_MW D (tyL cI cJ) l yX0_isLater wsX0_isLater rm 0 0 [.ref (q 0), .int x0, .int x1] (wX q cI cJ (nI n) mk lt tg pa an la kn fb fh nb te wt bh) Rq) (hRq : ∀ v w1, Rq v w1 → ∃ x : Bool, v = some (.int (eb x))) : eg_ML D (tyL cI cJ) l yL_by wsL_by rmL [.ref (q 0), .int (nI 3), .int x0, .int x1] (wX q cI cJ (nI n) mk lt tg pa an la kn fb fh nb te wt bh) (fun r w1 => ∃ x : Bool, r = some (.long (if x = true then 1 else 0)) ∧ Rq (some (.int (eb x))) w1) := by
  refine eg_ofWH (cc := cL_by) (maxL := 5) (ret := (some .long)) (hh := [(0, 69, 70, 14)]) (by decide) rfl ?_
  intro p e s m args below meth c s₁ B hml htb hv
  obtain ⟨rfl, hP, hK, hD0, hT⟩ := hv
  have hx := B.exec
  have hb := B.bytes
  have hr := B.returns
  have hts := atoms_spec (ws := wsL_by) B.pre
  have hown : s.vm.findClass RL = some m.cls := findClass_of_methodNamed B.named
  have hlocks := B.notSynchronized
  have hD := eg_D_of hD0
  have hS : va_S (eg_A (wX q cI cJ (nI n) mk lt tg pa an la kn fb fh nb te wt bh)) s.heap s.heap [] := va_S.rf
  have hl := lv_entry ([.ref (q 0), .int (nI 3), .int x0, .int x1]) (n := 5) (Nat.le_of_ble_eq_true rfl)
  rw [lg_entry_eq]
  generalize (lg_sl ([.ref (q 0), .int (nI 3), .int x0, .int x1]) ++ List.replicate (5 - (lg_sl ([.ref (q 0), .int (nI 3), .int x0, .int x1])).length) Slot.unset).toArray = ls at hl ⊢
  have hl : lv_has ls 5 [(0, .ref (q 0)), (1, .int (nI 3)), (2, .int x0), (3, .int x1)] := hl
  generalize h0H : s.heap = H at hP ⊢
  have hS : va_S (eg_A (wX q cI cJ (nI n) mk lt tg pa an la kn fb fh nb te wt bh)) s.heap H [] := by rw [← h0H]; exact hS
  generalize ([] : List Loc) = locs at hS ⊢
  refine lv_iload_n hx hb dL_by_0 rfl (lv_at hl 1 rfl) ?_
  refine lv_if_ne (tgt := 12) hx hb dL_by_1 (by decide) (fun _ => ?_) (fun h => absurd h (by decide +kernel))
  refine lv_iload_n hx hb dL_by_12 rfl (lv_at hl 1 rfl) ?_
  refine lv_iconst (v := nI 1) hx hb dL_by_13 (by decide +kernel) ?_
  refine lv_icmp_ne (tgt := 26) hx hb dL_by_14 (by decide) (fun _ => ?_) (fun h => absurd h (by decide +kernel))
  refine lv_iload_n hx hb dL_by_26 rfl (lv_at hl 1 rfl) ?_
  refine lv_iconst (v := nI 2) hx hb dL_by_27 (by decide +kernel) ?_
  refine lv_icmp_ne (tgt := 41) hx hb dL_by_28 (by decide) (fun _ => ?_) (fun h => absurd h (by decide +kernel))
  refine lv_iload_n hx hb dL_by_41 rfl (lv_at hl 1 rfl) ?_
  refine lv_iconst (v := nI 3) hx hb dL_by_42 (by decide +kernel) ?_
  refine lv_icmp_ne (tgt := 63) hx hb dL_by_43 (by decide) (fun h => absurd rfl h) (fun _ => ?_)
  refine lv_aload_n hx hb dL_by_46 rfl (lv_at hl 0 rfl) ?_
  refine lv_iload_n hx hb dL_by_47 rfl (lv_at hl 2 rfl) ?_
  refine lv_iload_n hx hb dL_by_48 rfl (lv_at hl 3 rfl) ?_
  refine eg_callWVc (wr := []) (As := [.int x0, .int x1]) (rest := []) hx hb hml hown hts hK hP hD hS [0, 1, 2, 3, 4, 5, 6, 7, 8, 9, 10, 11, 12] [] rfl rfl (by decide) hM (cwV 2 hts gL_by_X0_isLater rfl hrm.1 hrm.2.1 (by decide +kernel) ⟨hrm.2.2.1, hrm.2.2.2⟩) (va_recv hK hP (ci := 0) (q0 := 0) rfl rfl) rfl hl.1 rfl (Nat.le_of_ble_eq_true rfl) dL_by_49 ⟨Nat.le_of_ble_eq_true rfl, Nat.le_of_ble_eq_true rfl⟩ (fun v9 w9 H locs hR9 hw9 hP hD hS => ?_)
  obtain ⟨x, rfl⟩ := hRq _ _ hR9
  refine eg_ifeq_b (tgt := 59) hx hb dL_by_52 (by decide) (fun c9 => ?_) (fun c9 => ?_)
  · refine lv_lconst (v := 0) hx hb dL_by_59 (by decide) ?_
    refine lv_goto (tgt := 69) hx hb dL_by_60 (by decide) ?_
    refine W.widen (k := 1) (n := 6) (by omega) (by omega) ?_
    exact W.lret hx hb hr (fun t9 ht9 _ => ⟨some (.long 0), w9, rfl, ⟨x, by rw [c9]; rfl, hR9⟩, hw9, by rw [ht9]; exact hP, hS.F ht9⟩) hS.2.2 dL_by_69
  · refine lv_lconst (v := 1) hx hb dL_by_55 (by decide) ?_
    refine lv_goto (tgt := 69) hx hb dL_by_56 (by decide) ?_
    refine W.widen (k := 1) (n := 6) (by omega) (by omega) ?_
    exact W.lret hx hb hr (fun t9 ht9 _ => ⟨some (.long 1), w9, rfl, ⟨x, by rw [c9]; rfl, hR9⟩, hw9, by rw [ht9]; exact hP, hS.F ht9⟩) hS.2.2 dL_by_69
set_option maxHeartbeats 4000000 in
set_option maxRecDepth 100000 in
theorem wl_by_isLater_b (l : Launch) (D : va_G) (cI cJ : ClassId) (q : Nat → Nat) (n : Nat) (mk lt tg : Nat → Int32) (pa an la kn : Nat → Int64) (fb : Int32) (fh nb te wt bh : Nat → Int32) (x0 x1 : Int32) {rm : Room} (hrm : rm.cells = 1 ∧ rm.slots = 6 ∧ rm.frames + 1 ≤ 9 ∧ 8 + (3 + 11) + rm.locals ≤ 150) {Rx : va_W → Prop} (hM : eg_MX D (tyL cI cJ) l yX0_isLater wsX0_isLater rm [.ref (q 0), .int x0, .int x1] (wX q cI cJ (nI n) mk lt tg pa an la kn fb fh nb te wt bh) "java/lang/IndexOutOfBoundsException" Rx) : eg_MLg D (tyL cI cJ) l yL_by wsL_by rmL [.ref (q 0), .int (nI 3), .int x0, .int x1] (wX q cI cJ (nI n) mk lt tg pa an la kn fb fh nb te wt bh) (fun r w1 => r = some (.long (-8)) ∧ Rx w1) 1 := by
  refine eg_ofWH (cc := cL_by) (maxL := 5) (ret := (some .long)) (hh := [(0, 69, 70, 14)]) (by decide) rfl ?_
  intro p e s m args below meth c s₁ B hml htb hv
  obtain ⟨rfl, hP, hK, hD0, hT⟩ := hv
  have hx := B.exec
  have hb := B.bytes
  have hr := B.returns
  have hts := atoms_spec (ws := wsL_by) B.pre
  have hown : s.vm.findClass RL = some m.cls := findClass_of_methodNamed B.named
  have hlocks := B.notSynchronized
  have hD := eg_D_of hD0
  have hS : va_S (eg_A (wX q cI cJ (nI n) mk lt tg pa an la kn fb fh nb te wt bh)) s.heap s.heap [] := va_S.rf
  have hl := lv_entry ([.ref (q 0), .int (nI 3), .int x0, .int x1]) (n := 5) (Nat.le_of_ble_eq_true rfl)
  rw [lg_entry_eq]
  generalize (lg_sl ([.ref (q 0), .int (nI 3), .int x0, .int x1]) ++ List.replicate (5 - (lg_sl ([.ref (q 0), .int (nI 3), .int x0, .int x1])).length) Slot.unset).toArray = ls at hl ⊢
  have hl : lv_has ls 5 [(0, .ref (q 0)), (1, .int (nI 3)), (2, .int x0), (3, .int x1)] := hl
  generalize h0H : s.heap = H at hP ⊢
  have hS : va_S (eg_A (wX q cI cJ (nI n) mk lt tg pa an la kn fb fh nb te wt bh)) s.heap H [] := by rw [← h0H]; exact hS
  generalize ([] : List Loc) = locs at hS ⊢
  refine lv_iload_n hx hb dL_by_0 rfl (lv_at hl 1 rfl) ?_
  refine lv_if_ne (tgt := 12) hx hb dL_by_1 (by decide) (fun _ => ?_) (fun h => absurd h (by decide +kernel))
  refine lv_iload_n hx hb dL_by_12 rfl (lv_at hl 1 rfl) ?_
  refine lv_iconst (v := nI 1) hx hb dL_by_13 (by decide +kernel) ?_
  refine lv_icmp_ne (tgt := 26) hx hb dL_by_14 (by decide) (fun _ => ?_) (fun h => absurd h (by decide +kernel))
  refine lv_iload_n hx hb dL_by_26 rfl (lv_at hl 1 rfl) ?_
  refine lv_iconst (v := nI 2) hx hb dL_by_27 (by decide +kernel) ?_
  refine lv_icmp_ne (tgt := 41) hx hb dL_by_28 (by decide) (fun _ => ?_) (fun h => absurd h (by decide +kernel))
  refine lv_iload_n hx hb dL_by_41 rfl (lv_at hl 1 rfl) ?_
  refine lv_iconst (v := nI 3) hx hb dL_by_42 (by decide +kernel) ?_
  refine lv_icmp_ne (tgt := 63) hx hb dL_by_43 (by decide) (fun h => absurd rfl h) (fun _ => ?_)
  refine lv_aload_n hx hb dL_by_46 rfl (lv_at hl 0 rfl) ?_
  refine lv_iload_n hx hb dL_by_47 rfl (lv_at hl 2 rfl) ?_
  refine lv_iload_n hx hb dL_by_48 rfl (lv_at hl 3 rfl) ?_
  refine eg_callX (wr := []) (As := [.int x0, .int x1]) (rest := []) hx hb hml hown hts hK hP hD hS hT [0, 1, 2, 3, 4, 5, 6, 7, 8, 9, 10, 11, 12] [] rfl rfl (by decide) hM (cwV 2 hts gL_by_X0_isLater rfl hrm.1 hrm.2.1 (by decide +kernel) ⟨hrm.2.2.1, hrm.2.2.2⟩) (va_recv hK hP (ci := 0) (q0 := 0) rfl rfl) rfl hl.1 rfl (Nat.le_of_ble_eq_true rfl) dL_by_49 ⟨Nat.le_of_ble_eq_true rfl, Nat.le_of_ble_eq_true rfl⟩ (fun w9 H1 locs q9 ce hg9 hR9 hw9 hP hD hS hc1 hc2 hc3 => ?_)
  refine vx_catch (own := RL) (name := "java/lang/IndexOutOfBoundsException") hown [] ⟨0, 69, 70, 14⟩ [] (htb.trans rfl) (fun z hz => absurd hz List.not_mem_nil) (by decide) (by decide) (hts (.classLink RL 14 "java/lang/IndexOutOfBoundsException") (by decide +kernel)) (va_Nw.use rfl hT.1.2.2.2.2.1) hc1 hc2 hc3 ?_
  refine lv_astore (lv' := [(4, .ref q9), (0, .ref (q 0)), (1, .int (nI 3)), (2, .int x0), (3, .int x1)]) hx hb dL_by_70 hl (by decide) rfl (fun ls hl => ?_)
  refine lv_ldc2 hx hb hown (hts (.constantLong RL 69 (-8)) (by decide +kernel)) dL_by_72 ?_
  exact W.lret hx hb hr (fun t9 ht9 _ => ⟨⟨some (.long (-8)), w9, rfl, ⟨rfl, hR9⟩, hw9, by rw [ht9]; exact hP, hS.F ht9⟩, by rw [ht9, h0H]; exact hg9⟩) hS.2.2 dL_by_75
set_option maxHeartbeats 4000000 in
set_option maxRecDepth 100000 in
theorem wl_by_authorOf (l : Launch) (D : va_G) (cI cJ : ClassId) (q : Nat → Nat) (n : Nat) (mk lt tg : Nat → Int32) (pa an la kn : Nat → Int64) (fb : Int32) (fh nb te wt bh : Nat → Int32) (x0 x1 : Int32) {rm : Room} (hrm : rm.cells = 0 ∧ rm.slots = 0 ∧ rm.frames + 1 ≤ 9 ∧ 8 + (2 + 11) + rm.locals ≤ 150) {Rq : Option Value → va_W → Prop} (hM : eg_MW D (tyL cI cJ) l yX0_authorOf wsX0_authorOf rm 0 0 [.ref (q 0), .int x0] (wX q cI cJ (nI n) mk lt tg pa an la kn fb fh nb te wt bh) Rq) (hRq : ∀ v w1, Rq v w1 → ∃ x : Int32, v = some (.int x)) : eg_ML D (tyL cI cJ) l yL_by wsL_by rmL [.ref (q 0), .int (nI 4), .int x0, .int x1] (wX q cI cJ (nI n) mk lt tg pa an la kn fb fh nb te wt bh) (fun r w1 => ∃ x : Int32, r = some (.long x.toInt64) ∧ Rq (some (.int x)) w1) := by
  refine eg_ofWH (cc := cL_by) (maxL := 5) (ret := (some .long)) (hh := [(0, 69, 70, 14)]) (by decide) rfl ?_
  intro p e s m args below meth c s₁ B hml htb hv
  obtain ⟨rfl, hP, hK, hD0, hT⟩ := hv
  have hx := B.exec
  have hb := B.bytes
  have hr := B.returns
  have hts := atoms_spec (ws := wsL_by) B.pre
  have hown : s.vm.findClass RL = some m.cls := findClass_of_methodNamed B.named
  have hlocks := B.notSynchronized
  have hD := eg_D_of hD0
  have hS : va_S (eg_A (wX q cI cJ (nI n) mk lt tg pa an la kn fb fh nb te wt bh)) s.heap s.heap [] := va_S.rf
  have hl := lv_entry ([.ref (q 0), .int (nI 4), .int x0, .int x1]) (n := 5) (Nat.le_of_ble_eq_true rfl)
  rw [lg_entry_eq]
  generalize (lg_sl ([.ref (q 0), .int (nI 4), .int x0, .int x1]) ++ List.replicate (5 - (lg_sl ([.ref (q 0), .int (nI 4), .int x0, .int x1])).length) Slot.unset).toArray = ls at hl ⊢
  have hl : lv_has ls 5 [(0, .ref (q 0)), (1, .int (nI 4)), (2, .int x0), (3, .int x1)] := hl
  generalize h0H : s.heap = H at hP ⊢
  have hS : va_S (eg_A (wX q cI cJ (nI n) mk lt tg pa an la kn fb fh nb te wt bh)) s.heap H [] := by rw [← h0H]; exact hS
  generalize ([] : List Loc) = locs at hS ⊢
  refine lv_iload_n hx hb dL_by_0 rfl (lv_at hl 1 rfl) ?_
  refine lv_if_ne (tgt := 12) hx hb dL_by_1 (by decide) (fun _ => ?_) (fun h => absurd h (by decide +kernel))
  refine lv_iload_n hx hb dL_by_12 rfl (lv_at hl 1 rfl) ?_
  refine lv_iconst (v := nI 1) hx hb dL_by_13 (by decide +kernel) ?_
  refine lv_icmp_ne (tgt := 26) hx hb dL_by_14 (by decide) (fun _ => ?_) (fun h => absurd h (by decide +kernel))
  refine lv_iload_n hx hb dL_by_26 rfl (lv_at hl 1 rfl) ?_
  refine lv_iconst (v := nI 2) hx hb dL_by_27 (by decide +kernel) ?_
  refine lv_icmp_ne (tgt := 41) hx hb dL_by_28 (by decide) (fun _ => ?_) (fun h => absurd h (by decide +kernel))
  refine lv_iload_n hx hb dL_by_41 rfl (lv_at hl 1 rfl) ?_
  refine lv_iconst (v := nI 3) hx hb dL_by_42 (by decide +kernel) ?_
  refine lv_icmp_ne (tgt := 63) hx hb dL_by_43 (by decide) (fun _ => ?_) (fun h => absurd h (by decide +kernel))
  refine lv_aload_n hx hb dL_by_63 rfl (lv_at hl 0 rfl) ?_
  refine lv_iload_n hx hb dL_by_64 rfl (lv_at hl 2 rfl) ?_
  refine eg_callWVc (wr := []) (As := [.int x0]) (rest := []) hx hb hml hown hts hK hP hD hS [0, 1, 2, 3, 4, 5, 6, 7, 8, 9, 10, 11, 12] [] rfl rfl (by decide) hM (cwV 1 hts gL_by_X0_authorOf rfl hrm.1 hrm.2.1 (by decide +kernel) ⟨hrm.2.2.1, hrm.2.2.2⟩) (va_recv hK hP (ci := 0) (q0 := 0) rfl rfl) rfl hl.1 rfl (Nat.le_of_ble_eq_true rfl) dL_by_65 ⟨Nat.le_of_ble_eq_true rfl, Nat.le_of_ble_eq_true rfl⟩ (fun v9 w9 H locs hR9 hw9 hP hD hS => ?_)
  obtain ⟨x, rfl⟩ := hRq _ _ hR9
  refine lv_i2l (v := x.toInt64) hx hb dL_by_68 rfl ?_
  refine W.widen (k := 1) (n := 6) (by omega) (by omega) ?_
  exact W.lret hx hb hr (fun t9 ht9 _ => ⟨some (.long x.toInt64), w9, rfl, ⟨x, rfl, hR9⟩, hw9, by rw [ht9]; exact hP, hS.F ht9⟩) hS.2.2 dL_by_69
set_option maxHeartbeats 4000000 in
set_option maxRecDepth 100000 in
theorem wl_by_authorOf_b (l : Launch) (D : va_G) (cI cJ : ClassId) (q : Nat → Nat) (n : Nat) (mk lt tg : Nat → Int32) (pa an la kn : Nat → Int64) (fb : Int32) (fh nb te wt bh : Nat → Int32) (x0 x1 : Int32) {rm : Room} (hrm : rm.cells = 1 ∧ rm.slots = 6 ∧ rm.frames + 1 ≤ 9 ∧ 8 + (2 + 11) + rm.locals ≤ 150) {Rx : va_W → Prop} (hM : eg_MX D (tyL cI cJ) l yX0_authorOf wsX0_authorOf rm [.ref (q 0), .int x0] (wX q cI cJ (nI n) mk lt tg pa an la kn fb fh nb te wt bh) "java/lang/IndexOutOfBoundsException" Rx) : eg_MLg D (tyL cI cJ) l yL_by wsL_by rmL [.ref (q 0), .int (nI 4), .int x0, .int x1] (wX q cI cJ (nI n) mk lt tg pa an la kn fb fh nb te wt bh) (fun r w1 => r = some (.long (-8)) ∧ Rx w1) 1 := by
  refine eg_ofWH (cc := cL_by) (maxL := 5) (ret := (some .long)) (hh := [(0, 69, 70, 14)]) (by decide) rfl ?_
  intro p e s m args below meth c s₁ B hml htb hv
  obtain ⟨rfl, hP, hK, hD0, hT⟩ := hv
  have hx := B.exec
  have hb := B.bytes
  have hr := B.returns
  have hts := atoms_spec (ws := wsL_by) B.pre
  have hown : s.vm.findClass RL = some m.cls := findClass_of_methodNamed B.named
  have hlocks := B.notSynchronized
  have hD := eg_D_of hD0
  have hS : va_S (eg_A (wX q cI cJ (nI n) mk lt tg pa an la kn fb fh nb te wt bh)) s.heap s.heap [] := va_S.rf
  have hl := lv_entry ([.ref (q 0), .int (nI 4), .int x0, .int x1]) (n := 5) (Nat.le_of_ble_eq_true rfl)
  rw [lg_entry_eq]
  generalize (lg_sl ([.ref (q 0), .int (nI 4), .int x0, .int x1]) ++ List.replicate (5 - (lg_sl ([.ref (q 0), .int (nI 4), .int x0, .int x1])).length) Slot.unset).toArray = ls at hl ⊢
  have hl : lv_has ls 5 [(0, .ref (q 0)), (1, .int (nI 4)), (2, .int x0), (3, .int x1)] := hl
  generalize h0H : s.heap = H at hP ⊢
  have hS : va_S (eg_A (wX q cI cJ (nI n) mk lt tg pa an la kn fb fh nb te wt bh)) s.heap H [] := by rw [← h0H]; exact hS
  generalize ([] : List Loc) = locs at hS ⊢
  refine lv_iload_n hx hb dL_by_0 rfl (lv_at hl 1 rfl) ?_
  refine lv_if_ne (tgt := 12) hx hb dL_by_1 (by decide) (fun _ => ?_) (fun h => absurd h (by decide +kernel))
  refine lv_iload_n hx hb dL_by_12 rfl (lv_at hl 1 rfl) ?_
  refine lv_iconst (v := nI 1) hx hb dL_by_13 (by decide +kernel) ?_
  refine lv_icmp_ne (tgt := 26) hx hb dL_by_14 (by decide) (fun _ => ?_) (fun h => absurd h (by decide +kernel))
  refine lv_iload_n hx hb dL_by_26 rfl (lv_at hl 1 rfl) ?_
  refine lv_iconst (v := nI 2) hx hb dL_by_27 (by decide +kernel) ?_
  refine lv_icmp_ne (tgt := 41) hx hb dL_by_28 (by decide) (fun _ => ?_) (fun h => absurd h (by decide +kernel))
  refine lv_iload_n hx hb dL_by_41 rfl (lv_at hl 1 rfl) ?_
  refine lv_iconst (v := nI 3) hx hb dL_by_42 (by decide +kernel) ?_
  refine lv_icmp_ne (tgt := 63) hx hb dL_by_43 (by decide) (fun _ => ?_) (fun h => absurd h (by decide +kernel))
  refine lv_aload_n hx hb dL_by_63 rfl (lv_at hl 0 rfl) ?_
  refine lv_iload_n hx hb dL_by_64 rfl (lv_at hl 2 rfl) ?_
  refine eg_callX (wr := []) (As := [.int x0]) (rest := []) hx hb hml hown hts hK hP hD hS hT [0, 1, 2, 3, 4, 5, 6, 7, 8, 9, 10, 11, 12] [] rfl rfl (by decide) hM (cwV 1 hts gL_by_X0_authorOf rfl hrm.1 hrm.2.1 (by decide +kernel) ⟨hrm.2.2.1, hrm.2.2.2⟩) (va_recv hK hP (ci := 0) (q0 := 0) rfl rfl) rfl hl.1 rfl (Nat.le_of_ble_eq_true rfl) dL_by_65 ⟨Nat.le_of_ble_eq_true rfl, Nat.le_of_ble_eq_true rfl⟩ (fun w9 H1 locs q9 ce hg9 hR9 hw9 hP hD hS hc1 hc2 hc3 => ?_)
  refine vx_catch (own := RL) (name := "java/lang/IndexOutOfBoundsException") hown [] ⟨0, 69, 70, 14⟩ [] (htb.trans rfl) (fun z hz => absurd hz List.not_mem_nil) (by decide) (by decide) (hts (.classLink RL 14 "java/lang/IndexOutOfBoundsException") (by decide +kernel)) (va_Nw.use rfl hT.1.2.2.2.2.1) hc1 hc2 hc3 ?_
  refine lv_astore (lv' := [(4, .ref q9), (0, .ref (q 0)), (1, .int (nI 4)), (2, .int x0), (3, .int x1)]) hx hb dL_by_70 hl (by decide) rfl (fun ls hl => ?_)
  refine lv_ldc2 hx hb hown (hts (.constantLong RL 69 (-8)) (by decide +kernel)) dL_by_72 ?_
  exact W.lret hx hb hr (fun t9 ht9 _ => ⟨⟨some (.long (-8)), w9, rfl, ⟨rfl, hR9⟩, hw9, by rw [ht9]; exact hP, hS.F ht9⟩, by rw [ht9, h0H]; exact hg9⟩) hS.2.2 dL_by_75
set_option maxHeartbeats 4000000 in
set_option maxRecDepth 100000 in
theorem wl_insert (l : Launch) (D : va_G) (cI cJ : ClassId) (q : Nat → Nat) (n : Nat) (mk lt tg : Nat → Int32) (pa an la kn : Nat → Int64) (fb : Int32) (fh nb te wt bh : Nat → Int32) (x0 x1 x2 : Int32) {rm : Room} (hrm : rm.cells = 0 ∧ rm.slots = 0 ∧ rm.frames + 1 ≤ 9 ∧ 8 + (7 + 11) + rm.locals ≤ 150) {Rq : Option Value → va_W → Prop} (hM : eg_MW D (tyL cI cJ) l yX0_insert wsX0_insert rm 0 0 [.ref (q 0), .int x0, .int x1, .int x2] (wX q cI cJ (nI n) mk lt tg pa an la kn fb fh nb te wt bh) Rq) (hRq : ∀ v w1, Rq v w1 → ∃ x : Int32, v = some (.int x)) : eg_ML D (tyL cI cJ) l yL_insert wsL_insert rmL [.ref (q 0), .int x0, .int x1, .int x2] (wX q cI cJ (nI n) mk lt tg pa an la kn fb fh nb te wt bh) (fun r w1 => ∃ x : Int32, r = some (.int x) ∧ Rq (some (.int x)) w1) := by
  refine eg_ofWH (cc := cL_insert) (maxL := 5) (ret := (some .int)) (hh := [(0, 7, 8, 14), (0, 7, 13, 16), (0, 7, 18, 18)]) (by decide) rfl ?_
  intro p e s m args below meth c s₁ B hml htb hv
  obtain ⟨rfl, hP, hK, hD0, hT⟩ := hv
  have hx := B.exec
  have hb := B.bytes
  have hr := B.returns
  have hts := atoms_spec (ws := wsL_insert) B.pre
  have hown : s.vm.findClass RL = some m.cls := findClass_of_methodNamed B.named
  have hlocks := B.notSynchronized
  have hD := eg_D_of hD0
  have hS : va_S (eg_A (wX q cI cJ (nI n) mk lt tg pa an la kn fb fh nb te wt bh)) s.heap s.heap [] := va_S.rf
  have hl := lv_entry ([.ref (q 0), .int x0, .int x1, .int x2]) (n := 5) (Nat.le_of_ble_eq_true rfl)
  rw [lg_entry_eq]
  generalize (lg_sl ([.ref (q 0), .int x0, .int x1, .int x2]) ++ List.replicate (5 - (lg_sl ([.ref (q 0), .int x0, .int x1, .int x2])).length) Slot.unset).toArray = ls at hl ⊢
  have hl : lv_has ls 5 [(0, .ref (q 0)), (1, .int x0), (2, .int x1), (3, .int x2)] := hl
  generalize h0H : s.heap = H at hP ⊢
  have hS : va_S (eg_A (wX q cI cJ (nI n) mk lt tg pa an la kn fb fh nb te wt bh)) s.heap H [] := by rw [← h0H]; exact hS
  generalize ([] : List Loc) = locs at hS ⊢
  refine lv_aload_n hx hb dL_insert_0 rfl (lv_at hl 0 rfl) ?_
  refine lv_iload_n hx hb dL_insert_1 rfl (lv_at hl 1 rfl) ?_
  refine lv_iload_n hx hb dL_insert_2 rfl (lv_at hl 2 rfl) ?_
  refine lv_iload_n hx hb dL_insert_3 rfl (lv_at hl 3 rfl) ?_
  refine eg_callWVc (wr := []) (As := [.int x0, .int x1, .int x2]) (rest := []) hx hb hml hown hts hK hP hD hS [0, 1, 2, 3, 4, 5, 6, 7, 8, 9, 10, 11, 12] [] rfl rfl (by decide) hM (cwV 3 hts gL_insert_X0_insert rfl hrm.1 hrm.2.1 (by decide +kernel) ⟨hrm.2.2.1, hrm.2.2.2⟩) (va_recv hK hP (ci := 0) (q0 := 0) rfl rfl) rfl hl.1 rfl (Nat.le_of_ble_eq_true rfl) dL_insert_4 ⟨Nat.le_of_ble_eq_true rfl, Nat.le_of_ble_eq_true rfl⟩ (fun v9 w9 H locs hR9 hw9 hP hD hS => ?_)
  obtain ⟨x, rfl⟩ := hRq _ _ hR9
  refine W.widen (k := 1) (n := 6) (by omega) (by omega) ?_
  exact W.iret hx hb hr (fun t9 ht9 _ => ⟨some (.int x), w9, rfl, ⟨x, rfl, hR9⟩, hw9, by rw [ht9]; exact hP, hS.F ht9⟩) hS.2.2 dL_insert_7
set_option maxHeartbeats 4000000 in
set_option maxRecDepth 100000 in
theorem wl_insert_b (l : Launch) (D : va_G) (cI cJ : ClassId) (q : Nat → Nat) (n : Nat) (mk lt tg : Nat → Int32) (pa an la kn : Nat → Int64) (fb : Int32) (fh nb te wt bh : Nat → Int32) (x0 x1 x2 : Int32) {rm : Room} (hrm : rm.cells = 1 ∧ rm.slots = 6 ∧ rm.frames + 1 ≤ 9 ∧ 8 + (7 + 11) + rm.locals ≤ 150) {Rx : va_W → Prop} (hM : eg_MX D (tyL cI cJ) l yX0_insert wsX0_insert rm [.ref (q 0), .int x0, .int x1, .int x2] (wX q cI cJ (nI n) mk lt tg pa an la kn fb fh nb te wt bh) "java/lang/IndexOutOfBoundsException" Rx) : eg_MLg D (tyL cI cJ) l yL_insert wsL_insert rmL [.ref (q 0), .int x0, .int x1, .int x2] (wX q cI cJ (nI n) mk lt tg pa an la kn fb fh nb te wt bh) (fun r w1 => r = some (.int (-8)) ∧ Rx w1) 1 := by
  refine eg_ofWH (cc := cL_insert) (maxL := 5) (ret := (some .int)) (hh := [(0, 7, 8, 14), (0, 7, 13, 16), (0, 7, 18, 18)]) (by decide) rfl ?_
  intro p e s m args below meth c s₁ B hml htb hv
  obtain ⟨rfl, hP, hK, hD0, hT⟩ := hv
  have hx := B.exec
  have hb := B.bytes
  have hr := B.returns
  have hts := atoms_spec (ws := wsL_insert) B.pre
  have hown : s.vm.findClass RL = some m.cls := findClass_of_methodNamed B.named
  have hlocks := B.notSynchronized
  have hD := eg_D_of hD0
  have hS : va_S (eg_A (wX q cI cJ (nI n) mk lt tg pa an la kn fb fh nb te wt bh)) s.heap s.heap [] := va_S.rf
  have hl := lv_entry ([.ref (q 0), .int x0, .int x1, .int x2]) (n := 5) (Nat.le_of_ble_eq_true rfl)
  rw [lg_entry_eq]
  generalize (lg_sl ([.ref (q 0), .int x0, .int x1, .int x2]) ++ List.replicate (5 - (lg_sl ([.ref (q 0), .int x0, .int x1, .int x2])).length) Slot.unset).toArray = ls at hl ⊢
  have hl : lv_has ls 5 [(0, .ref (q 0)), (1, .int x0), (2, .int x1), (3, .int x2)] := hl
  generalize h0H : s.heap = H at hP ⊢
  have hS : va_S (eg_A (wX q cI cJ (nI n) mk lt tg pa an la kn fb fh nb te wt bh)) s.heap H [] := by rw [← h0H]; exact hS
  generalize ([] : List Loc) = locs at hS ⊢
  refine lv_aload_n hx hb dL_insert_0 rfl (lv_at hl 0 rfl) ?_
  refine lv_iload_n hx hb dL_insert_1 rfl (lv_at hl 1 rfl) ?_
  refine lv_iload_n hx hb dL_insert_2 rfl (lv_at hl 2 rfl) ?_
  refine lv_iload_n hx hb dL_insert_3 rfl (lv_at hl 3 rfl) ?_
  refine eg_callX (wr := []) (As := [.int x0, .int x1, .int x2]) (rest := []) hx hb hml hown hts hK hP hD hS hT [0, 1, 2, 3, 4, 5, 6, 7, 8, 9, 10, 11, 12] [] rfl rfl (by decide) hM (cwV 3 hts gL_insert_X0_insert rfl hrm.1 hrm.2.1 (by decide +kernel) ⟨hrm.2.2.1, hrm.2.2.2⟩) (va_recv hK hP (ci := 0) (q0 := 0) rfl rfl) rfl hl.1 rfl (Nat.le_of_ble_eq_true rfl) dL_insert_4 ⟨Nat.le_of_ble_eq_true rfl, Nat.le_of_ble_eq_true rfl⟩ (fun w9 H1 locs q9 ce hg9 hR9 hw9 hP hD hS hc1 hc2 hc3 => ?_)
  refine vx_catch (own := RL) (name := "java/lang/IndexOutOfBoundsException") hown [] ⟨0, 7, 8, 14⟩ [⟨0, 7, 13, 16⟩, ⟨0, 7, 18, 18⟩] (htb.trans rfl) (fun z hz => absurd hz List.not_mem_nil) (by decide) (by decide) (hts (.classLink RL 14 "java/lang/IndexOutOfBoundsException") (by decide +kernel)) (va_Nw.use rfl hT.1.2.2.2.2.1) hc1 hc2 hc3 ?_
  refine lv_astore (lv' := [(4, .ref q9), (0, .ref (q 0)), (1, .int x0), (2, .int x1), (3, .int x2)]) hx hb dL_insert_8 hl (by decide) rfl (fun ls hl => ?_)
  refine lv_bipush (v := -8) hx hb dL_insert_10 (by decide +kernel) ?_
  exact W.iret hx hb hr (fun t9 ht9 _ => ⟨⟨some (.int (-8)), w9, rfl, ⟨rfl, hR9⟩, hw9, by rw [ht9]; exact hP, hS.F ht9⟩, by rw [ht9, h0H]; exact hg9⟩) hS.2.2 dL_insert_12
set_option maxHeartbeats 4000000 in
set_option maxRecDepth 100000 in
theorem wl_insert_a (l : Launch) (D : va_G) (cI cJ : ClassId) (q : Nat → Nat) (n : Nat) (mk lt tg : Nat → Int32) (pa an la kn : Nat → Int64) (fb : Int32) (fh nb te wt bh : Nat → Int32) (x0 x1 x2 : Int32) {rm : Room} (hrm : rm.cells = 1 ∧ rm.slots = 6 ∧ rm.frames + 1 ≤ 9 ∧ 8 + (7 + 11) + rm.locals ≤ 150) {Rx : va_W → Prop} (hM : eg_MX D (tyL cI cJ) l yX0_insert wsX0_insert rm [.ref (q 0), .int x0, .int x1, .int x2] (wX q cI cJ (nI n) mk lt tg pa an la kn fb fh nb te wt bh) "java/lang/IllegalArgumentException" Rx) : eg_MLg D (tyL cI cJ) l yL_insert wsL_insert rmL [.ref (q 0), .int x0, .int x1, .int x2] (wX q cI cJ (nI n) mk lt tg pa an la kn fb fh nb te wt bh) (fun r w1 => r = some (.int (-8)) ∧ Rx w1) 1 := by
  refine eg_ofWH (cc := cL_insert) (maxL := 5) (ret := (some .int)) (hh := [(0, 7, 8, 14), (0, 7, 13, 16), (0, 7, 18, 18)]) (by decide) rfl ?_
  intro p e s m args below meth c s₁ B hml htb hv
  obtain ⟨rfl, hP, hK, hD0, hT⟩ := hv
  have hx := B.exec
  have hb := B.bytes
  have hr := B.returns
  have hts := atoms_spec (ws := wsL_insert) B.pre
  have hown : s.vm.findClass RL = some m.cls := findClass_of_methodNamed B.named
  have hlocks := B.notSynchronized
  have hD := eg_D_of hD0
  have hS : va_S (eg_A (wX q cI cJ (nI n) mk lt tg pa an la kn fb fh nb te wt bh)) s.heap s.heap [] := va_S.rf
  have hl := lv_entry ([.ref (q 0), .int x0, .int x1, .int x2]) (n := 5) (Nat.le_of_ble_eq_true rfl)
  rw [lg_entry_eq]
  generalize (lg_sl ([.ref (q 0), .int x0, .int x1, .int x2]) ++ List.replicate (5 - (lg_sl ([.ref (q 0), .int x0, .int x1, .int x2])).length) Slot.unset).toArray = ls at hl ⊢
  have hl : lv_has ls 5 [(0, .ref (q 0)), (1, .int x0), (2, .int x1), (3, .int x2)] := hl
  generalize h0H : s.heap = H at hP ⊢
  have hS : va_S (eg_A (wX q cI cJ (nI n) mk lt tg pa an la kn fb fh nb te wt bh)) s.heap H [] := by rw [← h0H]; exact hS
  generalize ([] : List Loc) = locs at hS ⊢
  refine lv_aload_n hx hb dL_insert_0 rfl (lv_at hl 0 rfl) ?_
  refine lv_iload_n hx hb dL_insert_1 rfl (lv_at hl 1 rfl) ?_
  refine lv_iload_n hx hb dL_insert_2 rfl (lv_at hl 2 rfl) ?_
  refine lv_iload_n hx hb dL_insert_3 rfl (lv_at hl 3 rfl) ?_
  refine eg_callX (wr := []) (As := [.int x0, .int x1, .int x2]) (rest := []) hx hb hml hown hts hK hP hD hS hT [0, 1, 2, 3, 4, 5, 6, 7, 8, 9, 10, 11, 12] [] rfl rfl (by decide) hM (cwV 3 hts gL_insert_X0_insert rfl hrm.1 hrm.2.1 (by decide +kernel) ⟨hrm.2.2.1, hrm.2.2.2⟩) (va_recv hK hP (ci := 0) (q0 := 0) rfl rfl) rfl hl.1 rfl (Nat.le_of_ble_eq_true rfl) dL_insert_4 ⟨Nat.le_of_ble_eq_true rfl, Nat.le_of_ble_eq_true rfl⟩ (fun w9 H1 locs q9 ce hg9 hR9 hw9 hP hD hS hc1 hc2 hc3 => ?_)
  refine vx_catch (own := RL) (name := "java/lang/IllegalArgumentException") hown [⟨0, 7, 8, 14⟩] ⟨0, 7, 13, 16⟩ [⟨0, 7, 18, 18⟩] (htb.trans rfl) (List.forall_mem_cons.mpr ⟨Or.inr ⟨(by decide), "java/lang/IndexOutOfBoundsException", hts (.classLink RL 14 "java/lang/IndexOutOfBoundsException") (by decide +kernel), hT.1.2.2.2.2.2.2.2.1⟩, (fun z hz => absurd hz List.not_mem_nil)⟩) (by decide) (by decide) (hts (.classLink RL 16 "java/lang/IllegalArgumentException") (by decide +kernel)) (va_Nw.use rfl hT.1.2.2.2.2.2.1) hc1 hc2 hc3 ?_
  refine lv_astore (lv' := [(4, .ref q9), (0, .ref (q 0)), (1, .int x0), (2, .int x1), (3, .int x2)]) hx hb dL_insert_13 hl (by decide) rfl (fun ls hl => ?_)
  refine lv_bipush (v := -8) hx hb dL_insert_15 (by decide +kernel) ?_
  exact W.iret hx hb hr (fun t9 ht9 _ => ⟨⟨some (.int (-8)), w9, rfl, ⟨rfl, hR9⟩, hw9, by rw [ht9]; exact hP, hS.F ht9⟩, by rw [ht9, h0H]; exact hg9⟩) hS.2.2 dL_insert_17
set_option maxHeartbeats 4000000 in
set_option maxRecDepth 100000 in
theorem wl_insert_s (l : Launch) (D : va_G) (cI cJ : ClassId) (q : Nat → Nat) (n : Nat) (mk lt tg : Nat → Int32) (pa an la kn : Nat → Int64) (fb : Int32) (fh nb te wt bh : Nat → Int32) (x0 x1 x2 : Int32) {rm : Room} (hrm : rm.cells = 1 ∧ rm.slots = 6 ∧ rm.frames + 1 ≤ 9 ∧ 8 + (7 + 11) + rm.locals ≤ 150) {Rx : va_W → Prop} (hM : eg_MX D (tyL cI cJ) l yX0_insert wsX0_insert rm [.ref (q 0), .int x0, .int x1, .int x2] (wX q cI cJ (nI n) mk lt tg pa an la kn fb fh nb te wt bh) "java/lang/IllegalStateException" Rx) : eg_MLg D (tyL cI cJ) l yL_insert wsL_insert rmL [.ref (q 0), .int x0, .int x1, .int x2] (wX q cI cJ (nI n) mk lt tg pa an la kn fb fh nb te wt bh) (fun r w1 => r = some (.int (-8)) ∧ Rx w1) 1 := by
  refine eg_ofWH (cc := cL_insert) (maxL := 5) (ret := (some .int)) (hh := [(0, 7, 8, 14), (0, 7, 13, 16), (0, 7, 18, 18)]) (by decide) rfl ?_
  intro p e s m args below meth c s₁ B hml htb hv
  obtain ⟨rfl, hP, hK, hD0, hT⟩ := hv
  have hx := B.exec
  have hb := B.bytes
  have hr := B.returns
  have hts := atoms_spec (ws := wsL_insert) B.pre
  have hown : s.vm.findClass RL = some m.cls := findClass_of_methodNamed B.named
  have hlocks := B.notSynchronized
  have hD := eg_D_of hD0
  have hS : va_S (eg_A (wX q cI cJ (nI n) mk lt tg pa an la kn fb fh nb te wt bh)) s.heap s.heap [] := va_S.rf
  have hl := lv_entry ([.ref (q 0), .int x0, .int x1, .int x2]) (n := 5) (Nat.le_of_ble_eq_true rfl)
  rw [lg_entry_eq]
  generalize (lg_sl ([.ref (q 0), .int x0, .int x1, .int x2]) ++ List.replicate (5 - (lg_sl ([.ref (q 0), .int x0, .int x1, .int x2])).length) Slot.unset).toArray = ls at hl ⊢
  have hl : lv_has ls 5 [(0, .ref (q 0)), (1, .int x0), (2, .int x1), (3, .int x2)] := hl
  generalize h0H : s.heap = H at hP ⊢
  have hS : va_S (eg_A (wX q cI cJ (nI n) mk lt tg pa an la kn fb fh nb te wt bh)) s.heap H [] := by rw [← h0H]; exact hS
  generalize ([] : List Loc) = locs at hS ⊢
  refine lv_aload_n hx hb dL_insert_0 rfl (lv_at hl 0 rfl) ?_
  refine lv_iload_n hx hb dL_insert_1 rfl (lv_at hl 1 rfl) ?_
  refine lv_iload_n hx hb dL_insert_2 rfl (lv_at hl 2 rfl) ?_
  refine lv_iload_n hx hb dL_insert_3 rfl (lv_at hl 3 rfl) ?_
  refine eg_callX (wr := []) (As := [.int x0, .int x1, .int x2]) (rest := []) hx hb hml hown hts hK hP hD hS hT [0, 1, 2, 3, 4, 5, 6, 7, 8, 9, 10, 11, 12] [] rfl rfl (by decide) hM (cwV 3 hts gL_insert_X0_insert rfl hrm.1 hrm.2.1 (by decide +kernel) ⟨hrm.2.2.1, hrm.2.2.2⟩) (va_recv hK hP (ci := 0) (q0 := 0) rfl rfl) rfl hl.1 rfl (Nat.le_of_ble_eq_true rfl) dL_insert_4 ⟨Nat.le_of_ble_eq_true rfl, Nat.le_of_ble_eq_true rfl⟩ (fun w9 H1 locs q9 ce hg9 hR9 hw9 hP hD hS hc1 hc2 hc3 => ?_)
  refine vx_catch (own := RL) (name := "java/lang/IllegalStateException") hown [⟨0, 7, 8, 14⟩, ⟨0, 7, 13, 16⟩] ⟨0, 7, 18, 18⟩ [] (htb.trans rfl) (List.forall_mem_cons.mpr ⟨Or.inr ⟨(by decide), "java/lang/IndexOutOfBoundsException", hts (.classLink RL 14 "java/lang/IndexOutOfBoundsException") (by decide +kernel), hT.1.2.2.2.2.2.2.2.2.1⟩, (List.forall_mem_cons.mpr ⟨Or.inr ⟨(by decide), "java/lang/IllegalArgumentException", hts (.classLink RL 16 "java/lang/IllegalArgumentException") (by decide +kernel), hT.1.2.2.2.2.2.2.2.2.2⟩, (fun z hz => absurd hz List.not_mem_nil)⟩)⟩) (by decide) (by decide) (hts (.classLink RL 18 "java/lang/IllegalStateException") (by decide +kernel)) (va_Nw.use rfl hT.1.2.2.2.2.2.2.1) hc1 hc2 hc3 ?_
  refine lv_astore (lv' := [(4, .ref q9), (0, .ref (q 0)), (1, .int x0), (2, .int x1), (3, .int x2)]) hx hb dL_insert_18 hl (by decide) rfl (fun ls hl => ?_)
  refine lv_bipush (v := -8) hx hb dL_insert_20 (by decide +kernel) ?_
  exact W.iret hx hb hr (fun t9 ht9 _ => ⟨⟨some (.int (-8)), w9, rfl, ⟨rfl, hR9⟩, hw9, by rw [ht9]; exact hP, hS.F ht9⟩, by rw [ht9, h0H]; exact hg9⟩) hS.2.2 dL_insert_22
set_option maxHeartbeats 4000000 in
/-- drawn: a cell of the script, its lower thirty bits -/
theorem c_L_drawn (l : Launch) (b L : Nat) (xs : Nat → Int32) (k : Nat) (hk : k < L) (hL : L < 2 ^ 31) : Met l yL_drawn wsL_drawn ({ frames := 0, cells := 0, slots := 0, locals := 0 }) (va_Pc [.ref b, .int (nI k)] (fun U => va_X b L xs U U.heap)) (eg_R (some (.int (xs k &&& 1073741823)))) 0 0 (fun _ => False) := by
  refine Met.ofW (cc := cL_drawn) (maxL := 3) (ret := some .int) (by decide) rfl ?_
  intro p e s m args below meth c s₁ B hml hv
  obtain ⟨rfl, hX⟩ := hv
  have hx := B.exec
  have hb := B.bytes
  have hr := B.returns
  have hts := atoms_spec (ws := wsL_drawn) B.pre
  have hown : s.vm.findClass RL = some m.cls := findClass_of_methodNamed B.named
  have hS : va_S (fun _ => False) s.heap s.heap [] := va_S.rf
  have hbl : b < s.heap.size := by
    obtain ⟨scr, h1, -⟩ := hX
    exact (Array.getElem?_eq_some_iff.mp h1).1
  have hl := lv_entry ([.ref b, .int (nI k)]) (n := 3) (Nat.le_of_ble_eq_true rfl)
  rw [lg_entry_eq]
  generalize (lg_sl ([.ref b, .int (nI k)]) ++ List.replicate (3 - (lg_sl ([.ref b, .int (nI k)])).length) Slot.unset).toArray = ls at hl ⊢
  have hl : lv_has ls 3 [(0, .ref b), (1, .int (nI k))] := hl
  refine lv_iload_n hx hb dL_drawn_0 rfl (lv_at hl 1 rfl) ?_
  refine lv_aload_n hx hb dL_drawn_1 rfl (lv_at hl 0 rfl) ?_
  refine va_slen hx hb hX hbl (fun h => h) hS dL_drawn_2 ?_
  refine eg_icmp_ge (tgt := 12) hx hb dL_drawn_3 (by decide) (by omega) (by omega) (fun h => by omega) (fun _ => ?_)
  refine lv_aload_n hx hb dL_drawn_6 rfl (lv_at hl 0 rfl) ?_
  refine lv_iload_n hx hb dL_drawn_7 rfl (lv_at hl 1 rfl) ?_
  refine va_sld hx hb hX hbl (fun h => h) hS (vp_in_nI hk (by omega)) dL_drawn_8 ?_
  rw [nI_clamp (by omega)]
  refine lv_goto (tgt := 21) hx hb dL_drawn_9 (by decide) ?_
  refine lv_istore_n (lv' := [(2, .int (xs k)), (0, .ref b), (1, .int (nI k))]) hx hb dL_drawn_21 rfl hl (by decide) rfl (fun ls hl => ?_)
  refine lv_iload_n hx hb dL_drawn_22 rfl (lv_at hl 0 rfl) ?_
  refine lv_ldc hx hb hown (hts (.constant RL 7 (1073741823)) (by decide +kernel)) dL_drawn_23 ?_
  refine lv_iand hx hb dL_drawn_25 ?_
  exact W.iret hx hb hr (fun t9 ht9 _ => ⟨rfl, ht9⟩) hS.2.2 dL_drawn_26
