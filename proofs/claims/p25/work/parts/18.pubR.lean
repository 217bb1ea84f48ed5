-- the class's public readers (by gen.py, specD.py)
set_option maxHeartbeats 4000000 in
set_option maxRecDepth 100000 in
theorem c_X0_eventInText (l : Launch) (D : va_G) (cI cJ : ClassId) (q : Nat → Nat) (n : Nat) (mk lt tg : Nat → Int32) (pa an la kn : Nat → Int64) (fb : Int32) (fh nb te wt bh : Nat → Int32) (v : Int64) (pp : Nat) (hI : Inv n lt tg an kn) (htr : ∃ f, Tr n fh nb f fb (lay (ins lt) tg n)) (hv : vok n an v) (hp : pp < (tx n lt tg v).length) : eg_MW D (tyL cI cJ) l yX0_eventInText wsX0_eventInText ({ frames := 4, cells := 0, slots := 0, locals := 97 }) 0 0 [.ref (q 0), .long v, .int (nI pp)] (wX q cI cJ (nI n) mk lt tg pa an la kn fb fh nb te wt bh) (fun r w1 => ∃ (te' wt' : Nat → Int32) (x : Nat), (tx n lt tg v)[pp]? = some x ∧ r = some (.int (nI x)) ∧ w1 = wX q cI cJ (nI n) mk lt tg pa an la kn fb fh nb te' wt' bh) := by
  refine Met.ofW (cc := cX0_eventInText) (maxL := 5) (ret := (some .int)) (by decide) rfl ?_
  intro p e s m args below meth c s₁ B hml hv
  obtain ⟨rfl, hP, hK, hD0⟩ := hv
  have hx := B.exec
  have hb := B.bytes
  have hr := B.returns
  have hts := atoms_spec (ws := wsX0_eventInText) B.pre
  have hown : s.vm.findClass RX0 = some m.cls := findClass_of_methodNamed B.named
  have hlocks := B.notSynchronized
  have hD := eg_D_of hD0
  have hS : va_S (eg_A (wX q cI cJ (nI n) mk lt tg pa an la kn fb fh nb te wt bh)) s.heap s.heap [] := va_S.rf
  have hin : ∀ w ∈ u_ws RX0 TX0 14, w ∈ wsX0_eventInText := by decide +kernel
  have hl := lv_entry ([.ref (q 0), .long v, .int (nI pp)]) (n := 5) (Nat.le_of_ble_eq_true rfl)
  rw [lg_entry_eq]
  generalize (lg_sl ([.ref (q 0), .long v, .int (nI pp)]) ++ List.replicate (5 - (lg_sl ([.ref (q 0), .long v, .int (nI pp)])).length) Slot.unset).toArray = ls at hl ⊢
  have hl : lv_has ls 5 [(0, .ref (q 0)), (1, .long v), (3, .int (nI pp))] := hl
  generalize h0H : s.heap = H at hP ⊢
  have hS : va_S (eg_A (wX q cI cJ (nI n) mk lt tg pa an la kn fb fh nb te wt bh)) s.heap H [] := by rw [← h0H]; exact hS
  generalize ([] : List Loc) = locs at hS ⊢
  refine lv_aload_n hx hb dX0_eventInText_0 rfl (lv_at hl 0 rfl) ?_
  refine lv_lload_n hx hb dX0_eventInText_1 rfl (lv_at hl 1 rfl) ?_
  have e9 := tx_all hI (hv)
  refine eg_callWV (As := [.long v]) (rest := []) hx hb hml hown hts hK hP hD rfl hS (c_X0_findText l D cI cJ q n mk lt tg pa an la kn fb fh nb te wt bh v (lay (ins lt) tg n) hI.1 hI.hdl htr (Nat.le_trans (lay_len n (lay_nodup (Nat.le_trans hI.1 (by decide)) hI.hangA)) hI.1)) (cwV 1 hts gX0_eventInText_X0_findText rfl rfl rfl (by decide +kernel) ⟨Nat.le_of_ble_eq_true rfl, Nat.le_of_ble_eq_true rfl⟩) (va_recv hK hP (ci := 0) (q0 := 0) rfl rfl) rfl hl.1 rfl (Nat.le_of_ble_eq_true rfl) dX0_eventInText_2 ⟨Nat.zero_le _, Nat.zero_le _⟩ (fun v9 w9 H locs hR9 hw9 hP hS => ?_)
  obtain ⟨te1, wt1, rfl, rfl, hh1⟩ := hR9
  rw [e9] at hh1 ⊢
  have hT9 := tx_len hI (hv)
  have hI1 := hI.1
  refine lv_istore (lv' := [(4, .int (nI ((tx n lt tg v).length))), (0, .ref (q 0)), (1, .long v), (3, .int (nI pp))]) hx hb dX0_eventInText_5 hl (by decide) rfl (fun ls hl => ?_)
  refine lv_aload_n hx hb dX0_eventInText_7 rfl (lv_at hl 1 rfl) ?_
  refine lv_iload_n hx hb dX0_eventInText_8 rfl (lv_at hl 3 rfl) ?_
  refine lv_iload hx hb dX0_eventInText_9 (lv_at hl 0 rfl) ?_
  refine eg_callV (As := [.int (nI pp), .int (nI ((tx n lt tg v).length))]) (rest := []) hx hb hml hown hts hK hP (c_X0_checkPlace l D cI cJ q n mk lt tg pa an la kn fb fh nb te1 wt1 bh pp ((tx n lt tg v).length) hp (by omega)) (cwV 2 hts gX0_eventInText_X0_checkPlace rfl rfl rfl (by decide +kernel) ⟨Nat.le_of_ble_eq_true rfl, Nat.le_of_ble_eq_true rfl⟩) (va_recv hK hP (ci := 0) (q0 := 0) rfl rfl) rfl hl.1 rfl (Nat.le_of_ble_eq_true rfl) dX0_eventInText_11 ⟨Nat.zero_le _, Nat.zero_le _⟩ ?_
  refine lv_aload_n hx hb dX0_eventInText_14 rfl (lv_at hl 1 rfl) ?_
  refine va_get (D := D) (ci := 0) (v := .ref (q 10)) (C := RX0) (T := TX0) (N := 14) hx hb hts hin hown hK hP 0 rfl rfl 11 (by decide) (hts (.fieldLink RX0 45 "EditGraph" "textEvents" "[I") (by decide +kernel)) (fun _ h9 => h9) rfl dX0_eventInText_15 ?_
  refine lv_iload_n hx hb dX0_eventInText_18 rfl (lv_at hl 3 rfl) ?_
  refine eg_iald hx hb hK hP 10 0 rfl rfl (by omega) (by decide) dX0_eventInText_19 ?_
  obtain ⟨x9, hx9⟩ := getq hp
  rw [hh1 _ _ hx9]
  exact W.iret hx hb hr (fun t9 ht9 _ => ⟨some (.int (nI x9)), (wX q cI cJ (nI n) mk lt tg pa an la kn fb fh nb te1 wt1 bh), rfl, ⟨te1, wt1, x9, hx9, rfl, rfl⟩, rfl, by rw [ht9]; exact hP, hS.F ht9⟩) hS.2.2 dX0_eventInText_20
set_option maxHeartbeats 4000000 in
set_option maxRecDepth 100000 in
theorem c_X0_eventInText_no (l : Launch) (D : va_G) (cI cJ : ClassId) (q : Nat → Nat) (n : Nat) (mk lt tg : Nat → Int32) (pa an la kn : Nat → Int64) (fb : Int32) (fh nb te wt bh : Nat → Int32) (v : Int64) (x : Int32) (hI : Inv n lt tg an kn) (htr : ∃ f, Tr n fh nb f fb (lay (ins lt) tg n)) (hv : vok n an v) (hbad : bad (tx n lt tg v).length x) (hfl : l.stackTraces = false) : eg_MX D (tyL cI cJ) l yX0_eventInText wsX0_eventInText ({ frames := 7, cells := 1, slots := 6, locals := 104 }) [.ref (q 0), .long v, .int x] (wX q cI cJ (nI n) mk lt tg pa an la kn fb fh nb te wt bh) "java/lang/IndexOutOfBoundsException" (fun w1 => ∃ (te' wt' bh' : Nat → Int32), w1 = wX q cI cJ (nI n) mk lt tg pa an la kn fb fh nb te' wt' bh') := by
  refine vx_ofW (cc := cX0_eventInText) (maxL := 5) (ret := (some .int)) (by decide) rfl ?_
  intro p e s m args below meth c s₁ B hml htb hv
  obtain ⟨rfl, hP, hK, hD0, hT⟩ := hv
  have hx := B.exec
  have hb := B.bytes
  have hr := B.returns
  have hts := atoms_spec (ws := wsX0_eventInText) B.pre
  have hown : s.vm.findClass RX0 = some m.cls := findClass_of_methodNamed B.named
  have hlocks := B.notSynchronized
  have hD := eg_D_of hD0
  have hS : va_S (eg_A (wX q cI cJ (nI n) mk lt tg pa an la kn fb fh nb te wt bh)) s.heap s.heap [] := va_S.rf
  have hin : ∀ w ∈ u_ws RX0 TX0 14, w ∈ wsX0_eventInText := by decide +kernel
  have hl := lv_entry ([.ref (q 0), .long v, .int x]) (n := 5) (Nat.le_of_ble_eq_true rfl)
  rw [lg_entry_eq]
  generalize (lg_sl ([.ref (q 0), .long v, .int x]) ++ List.replicate (5 - (lg_sl ([.ref (q 0), .long v, .int x])).length) Slot.unset).toArray = ls at hl ⊢
  have hl : lv_has ls 5 [(0, .ref (q 0)), (1, .long v), (3, .int x)] := hl
  generalize h0H : s.heap = H at hP ⊢
  have hS : va_S (eg_A (wX q cI cJ (nI n) mk lt tg pa an la kn fb fh nb te wt bh)) s.heap H [] := by rw [← h0H]; exact hS
  generalize ([] : List Loc) = locs at hS ⊢
  refine lv_aload_n hx hb dX0_eventInText_0 rfl (lv_at hl 0 rfl) ?_
  refine lv_lload_n hx hb dX0_eventInText_1 rfl (lv_at hl 1 rfl) ?_
  have e9 := tx_all hI (hv)
  refine eg_callWV (As := [.long v]) (rest := []) hx hb hml hown hts hK hP hD rfl hS (c_X0_findText l D cI cJ q n mk lt tg pa an la kn fb fh nb te wt bh v (lay (ins lt) tg n) hI.1 hI.hdl htr (Nat.le_trans (lay_len n (lay_nodup (Nat.le_trans hI.1 (by decide)) hI.hangA)) hI.1)) (cwV 1 hts gX0_eventInText_X0_findText rfl rfl rfl (by decide +kernel) ⟨Nat.le_of_ble_eq_true rfl, Nat.le_of_ble_eq_true rfl⟩) (va_recv hK hP (ci := 0) (q0 := 0) rfl rfl) rfl hl.1 rfl (Nat.le_of_ble_eq_true rfl) dX0_eventInText_2 ⟨Nat.zero_le _, Nat.zero_le _⟩ (fun v9 w9 H locs hR9 hw9 hP hS => ?_)
  obtain ⟨te1, wt1, rfl, rfl, hh1⟩ := hR9
  rw [e9] at hh1 ⊢
  have hT9 := tx_len hI (hv)
  have hI1 := hI.1
  refine lv_istore (lv' := [(4, .int (nI ((tx n lt tg v).length))), (0, .ref (q 0)), (1, .long v), (3, .int x)]) hx hb dX0_eventInText_5 hl (by decide) rfl (fun ls hl => ?_)
  refine lv_aload_n hx hb dX0_eventInText_7 rfl (lv_at hl 1 rfl) ?_
  refine lv_iload_n hx hb dX0_eventInText_8 rfl (lv_at hl 3 rfl) ?_
  refine lv_iload hx hb dX0_eventInText_9 (lv_at hl 0 rfl) ?_
  exact eg_callXout (As := [.int x, .int (nI ((tx n lt tg v).length))]) (rest := []) hx hb hml hown hts hK hP hD rfl hS hT [0, 1, 2, 3, 4, 5, 6, 7, 8, 9, 10, 11, 12] rfl (by decide) (c_X0_checkPlace_no l D cI cJ q n mk lt tg pa an la kn fb fh nb te1 wt1 bh x ((tx n lt tg v).length) hbad hfl) (cwV 2 hts gX0_eventInText_X0_checkPlace rfl rfl rfl (by decide +kernel) ⟨Nat.le_of_ble_eq_true rfl, Nat.le_of_ble_eq_true rfl⟩) (va_recv hK hP (ci := 0) (q0 := 0) rfl rfl) rfl hl.1 rfl (Nat.le_of_ble_eq_true rfl) dX0_eventInText_11 ⟨Nat.le_of_ble_eq_true rfl, Nat.le_of_ble_eq_true rfl⟩ htb hlocks (fun w1 h => ⟨_, _, _, h⟩)
set_option maxHeartbeats 4000000 in
set_option maxRecDepth 100000 in
theorem c_X0_events (l : Launch) (D : va_G) (cI cJ : ClassId) (q : Nat → Nat) (n : Nat) (mk lt tg : Nat → Int32) (pa an la kn : Nat → Int64) (fb : Int32) (fh nb te wt bh : Nat → Int32) : eg_MR D (tyL cI cJ) l yX0_events wsX0_events ({ frames := 0, cells := 0, slots := 0, locals := 0 }) [.ref (q 0)] (wX q cI cJ (nI n) mk lt tg pa an la kn fb fh nb te wt bh) (some (.int (nI n))) := by
  refine Met.ofW (cc := cX0_events) (maxL := 1) (ret := (some .int)) (by decide) rfl ?_
  intro p e s m args below meth c s₁ B hml hv
  obtain ⟨rfl, hP, hK⟩ := hv
  have hx := B.exec
  have hb := B.bytes
  have hr := B.returns
  have hts := atoms_spec (ws := wsX0_events) B.pre
  have hown : s.vm.findClass RX0 = some m.cls := findClass_of_methodNamed B.named
  have hlocks := B.notSynchronized
  have hin : ∀ w ∈ u_ws RX0 TX0 14, w ∈ wsX0_events := by decide +kernel
  have hl := lv_entry ([.ref (q 0)]) (n := 1) (Nat.le_of_ble_eq_true rfl)
  rw [lg_entry_eq]
  generalize (lg_sl ([.ref (q 0)]) ++ List.replicate (1 - (lg_sl ([.ref (q 0)])).length) Slot.unset).toArray = ls at hl ⊢
  have hl : lv_has ls 1 [(0, .ref (q 0))] := hl
  refine lv_aload_n hx hb dX0_events_0 rfl (lv_at hl 0 rfl) ?_
  refine va_get (D := D) (ci := 0) (v := .int (nI n)) (C := RX0) (T := TX0) (N := 14) hx hb hts hin hown hK hP 0 rfl rfl 0 (by decide) (hts (.fieldLink RX0 7 "EditGraph" "eventCount" "I") (by decide +kernel)) (fun _ h9 => h9) rfl dX0_events_1 ?_
  exact W.iret hx hb hr (fun t9 ht9 _ => ⟨congrArg (fun z => Outcome.returned (some (Value.int z))) (by first | exact rfl), ht9⟩) (fun q h => nomatch h) dX0_events_4
set_option maxHeartbeats 4000000 in
set_option maxRecDepth 100000 in
theorem c_X0_authorOf (l : Launch) (D : va_G) (cI cJ : ClassId) (q : Nat → Nat) (n : Nat) (mk lt tg : Nat → Int32) (pa an la kn : Nat → Int64) (fb : Int32) (fh nb te wt bh : Nat → Int32) (e0 : Nat) (hI : Inv n lt tg an kn) (he : e0 < n) : eg_MR D (tyL cI cJ) l yX0_authorOf wsX0_authorOf ({ frames := 2, cells := 0, slots := 0, locals := 42 }) [.ref (q 0), .int (nI e0)] (wX q cI cJ (nI n) mk lt tg pa an la kn fb fh nb te wt bh) (some (.int (mk e0))) := by
  have hI1 := hI.1
  refine Met.ofW (cc := cX0_authorOf) (maxL := 2) (ret := (some .int)) (by decide) rfl ?_
  intro p e s m args below meth c s₁ B hml hv
  obtain ⟨rfl, hP, hK⟩ := hv
  have hx := B.exec
  have hb := B.bytes
  have hr := B.returns
  have hts := atoms_spec (ws := wsX0_authorOf) B.pre
  have hown : s.vm.findClass RX0 = some m.cls := findClass_of_methodNamed B.named
  have hlocks := B.notSynchronized
  have hin : ∀ w ∈ u_ws RX0 TX0 14, w ∈ wsX0_authorOf := by decide +kernel
  have hl := lv_entry ([.ref (q 0), .int (nI e0)]) (n := 2) (Nat.le_of_ble_eq_true rfl)
  rw [lg_entry_eq]
  generalize (lg_sl ([.ref (q 0), .int (nI e0)]) ++ List.replicate (2 - (lg_sl ([.ref (q 0), .int (nI e0)])).length) Slot.unset).toArray = ls at hl ⊢
  have hl : lv_has ls 2 [(0, .ref (q 0)), (1, .int (nI e0))] := hl
  refine lv_aload_n hx hb dX0_authorOf_0 rfl (lv_at hl 0 rfl) ?_
  refine lv_iload_n hx hb dX0_authorOf_1 rfl (lv_at hl 1 rfl) ?_
  refine eg_callV (As := [.int (nI e0)]) (rest := []) hx hb hml hown hts hK hP (c_X0_checkEvent l D cI cJ q n mk lt tg pa an la kn fb fh nb te wt bh e0 hI.1 (by omega)) (cwV 1 hts gX0_authorOf_X0_checkEvent rfl rfl rfl (by decide +kernel) ⟨Nat.le_of_ble_eq_true rfl, Nat.le_of_ble_eq_true rfl⟩) (va_recv hK hP (ci := 0) (q0 := 0) rfl rfl) rfl hl.1 rfl (Nat.le_of_ble_eq_true rfl) dX0_authorOf_2 ⟨Nat.zero_le _, Nat.zero_le _⟩ ?_
  refine lv_aload_n hx hb dX0_authorOf_5 rfl (lv_at hl 0 rfl) ?_
  refine va_get (D := D) (ci := 0) (v := .ref (q 1)) (C := RX0) (T := TX0) (N := 14) hx hb hts hin hown hK hP 0 rfl rfl 1 (by decide) (hts (.fieldLink RX0 13 "EditGraph" "makers" "[I") (by decide +kernel)) (fun _ h9 => h9) rfl dX0_authorOf_6 ?_
  refine lv_iload_n hx hb dX0_authorOf_9 rfl (lv_at hl 1 rfl) ?_
  refine eg_iald hx hb hK hP 1 0 rfl rfl (by omega) (by decide) dX0_authorOf_10 ?_
  exact W.iret hx hb hr (fun t9 ht9 _ => ⟨congrArg (fun z => Outcome.returned (some (Value.int z))) (by first | exact rfl), ht9⟩) (fun q h => nomatch h) dX0_authorOf_11
set_option maxHeartbeats 4000000 in
set_option maxRecDepth 100000 in
theorem c_X0_parents (l : Launch) (D : va_G) (cI cJ : ClassId) (q : Nat → Nat) (n : Nat) (mk lt tg : Nat → Int32) (pa an la kn : Nat → Int64) (fb : Int32) (fh nb te wt bh : Nat → Int32) (e0 : Nat) (hI : Inv n lt tg an kn) (he : e0 < n) : eg_MR D (tyL cI cJ) l yX0_parents wsX0_parents ({ frames := 2, cells := 0, slots := 0, locals := 42 }) [.ref (q 0), .int (nI e0)] (wX q cI cJ (nI n) mk lt tg pa an la kn fb fh nb te wt bh) (some (.long (pa e0))) := by
  have hI1 := hI.1
  refine Met.ofW (cc := cX0_parents) (maxL := 2) (ret := (some .long)) (by decide) rfl ?_
  intro p e s m args below meth c s₁ B hml hv
  obtain ⟨rfl, hP, hK⟩ := hv
  have hx := B.exec
  have hb := B.bytes
  have hr := B.returns
  have hts := atoms_spec (ws := wsX0_parents) B.pre
  have hown : s.vm.findClass RX0 = some m.cls := findClass_of_methodNamed B.named
  have hlocks := B.notSynchronized
  have hin : ∀ w ∈ u_ws RX0 TX0 14, w ∈ wsX0_parents := by decide +kernel
  have hl := lv_entry ([.ref (q 0), .int (nI e0)]) (n := 2) (Nat.le_of_ble_eq_true rfl)
  rw [lg_entry_eq]
  generalize (lg_sl ([.ref (q 0), .int (nI e0)]) ++ List.replicate (2 - (lg_sl ([.ref (q 0), .int (nI e0)])).length) Slot.unset).toArray = ls at hl ⊢
  have hl : lv_has ls 2 [(0, .ref (q 0)), (1, .int (nI e0))] := hl
  refine lv_aload_n hx hb dX0_parents_0 rfl (lv_at hl 0 rfl) ?_
  refine lv_iload_n hx hb dX0_parents_1 rfl (lv_at hl 1 rfl) ?_
  refine eg_callV (As := [.int (nI e0)]) (rest := []) hx hb hml hown hts hK hP (c_X0_checkEvent l D cI cJ q n mk lt tg pa an la kn fb fh nb te wt bh e0 hI.1 (by omega)) (cwV 1 hts gX0_parents_X0_checkEvent rfl rfl rfl (by decide +kernel) ⟨Nat.le_of_ble_eq_true rfl, Nat.le_of_ble_eq_true rfl⟩) (va_recv hK hP (ci := 0) (q0 := 0) rfl rfl) rfl hl.1 rfl (Nat.le_of_ble_eq_true rfl) dX0_parents_2 ⟨Nat.zero_le _, Nat.zero_le _⟩ ?_
  refine lv_aload_n hx hb dX0_parents_5 rfl (lv_at hl 0 rfl) ?_
  refine va_get (D := D) (ci := 0) (v := .ref (q 4)) (C := RX0) (T := TX0) (N := 14) hx hb hts hin hown hK hP 0 rfl rfl 4 (by decide) (hts (.fieldLink RX0 23 "EditGraph" "parentSets" "[J") (by decide +kernel)) (fun _ h9 => h9) rfl dX0_parents_6 ?_
  refine lv_iload_n hx hb dX0_parents_9 rfl (lv_at hl 1 rfl) ?_
  refine eg_lald hx hb hK hP 4 1 rfl rfl (by omega) (by decide) dX0_parents_10 ?_
  exact W.lret hx hb hr (fun t9 ht9 _ => ⟨congrArg (fun z => Outcome.returned (some (Value.long z))) (by first | exact rfl), ht9⟩) (fun q h => nomatch h) dX0_parents_11
set_option maxHeartbeats 4000000 in
set_option maxRecDepth 100000 in
theorem c_X0_isLater (l : Launch) (D : va_G) (cI cJ : ClassId) (q : Nat → Nat) (n : Nat) (mk lt tg : Nat → Int32) (pa an la kn : Nat → Int64) (fb : Int32) (fh nb te wt bh : Nat → Int32) (e0 : Nat) (e1 : Nat) (hI : Inv n lt tg an kn) (he : e0 < n) (he1 : e1 < n) : eg_MR D (tyL cI cJ) l yX0_isLater wsX0_isLater ({ frames := 2, cells := 0, slots := 0, locals := 42 }) [.ref (q 0), .int (nI e0), .int (nI e1)] (wX q cI cJ (nI n) mk lt tg pa an la kn fb fh nb te wt bh) (some (.int (eb (bi (an e0) e1)))) := by
  have hI1 := hI.1
  refine Met.ofW (cc := cX0_isLater) (maxL := 3) (ret := (some .boolean)) (by decide) rfl ?_
  intro p e s m args below meth c s₁ B hml hv
  obtain ⟨rfl, hP, hK⟩ := hv
  have hx := B.exec
  have hb := B.bytes
  have hr := B.returns
  have hts := atoms_spec (ws := wsX0_isLater) B.pre
  have hown : s.vm.findClass RX0 = some m.cls := findClass_of_methodNamed B.named
  have hlocks := B.notSynchronized
  have hin : ∀ w ∈ u_ws RX0 TX0 14, w ∈ wsX0_isLater := by decide +kernel
  have hl := lv_entry ([.ref (q 0), .int (nI e0), .int (nI e1)]) (n := 3) (Nat.le_of_ble_eq_true rfl)
  rw [lg_entry_eq]
  generalize (lg_sl ([.ref (q 0), .int (nI e0), .int (nI e1)]) ++ List.replicate (3 - (lg_sl ([.ref (q 0), .int (nI e0), .int (nI e1)])).length) Slot.unset).toArray = ls at hl ⊢
  have hl : lv_has ls 3 [(0, .ref (q 0)), (1, .int (nI e0)), (2, .int (nI e1))] := hl
  refine lv_aload_n hx hb dX0_isLater_0 rfl (lv_at hl 0 rfl) ?_
  refine lv_iload_n hx hb dX0_isLater_1 rfl (lv_at hl 1 rfl) ?_
  refine eg_callV (As := [.int (nI e0)]) (rest := []) hx hb hml hown hts hK hP (c_X0_checkEvent l D cI cJ q n mk lt tg pa an la kn fb fh nb te wt bh e0 hI.1 (by omega)) (cwV 1 hts gX0_isLater_X0_checkEvent rfl rfl rfl (by decide +kernel) ⟨Nat.le_of_ble_eq_true rfl, Nat.le_of_ble_eq_true rfl⟩) (va_recv hK hP (ci := 0) (q0 := 0) rfl rfl) rfl hl.1 rfl (Nat.le_of_ble_eq_true rfl) dX0_isLater_2 ⟨Nat.zero_le _, Nat.zero_le _⟩ ?_
  refine lv_aload_n hx hb dX0_isLater_5 rfl (lv_at hl 0 rfl) ?_
  refine lv_iload_n hx hb dX0_isLater_6 rfl (lv_at hl 2 rfl) ?_
  refine eg_callV (As := [.int (nI e1)]) (rest := []) hx hb hml hown hts hK hP (c_X0_checkEvent l D cI cJ q n mk lt tg pa an la kn fb fh nb te wt bh e1 hI.1 (by omega)) (cwV 1 hts gX0_isLater_X0_checkEvent rfl rfl rfl (by decide +kernel) ⟨Nat.le_of_ble_eq_true rfl, Nat.le_of_ble_eq_true rfl⟩) (va_recv hK hP (ci := 0) (q0 := 0) rfl rfl) rfl hl.1 rfl (Nat.le_of_ble_eq_true rfl) dX0_isLater_7 ⟨Nat.zero_le _, Nat.zero_le _⟩ ?_
  refine lv_aload_n hx hb dX0_isLater_10 rfl (lv_at hl 0 rfl) ?_
  refine va_get (D := D) (ci := 0) (v := .ref (q 5)) (C := RX0) (T := TX0) (N := 14) hx hb hts hin hown hK hP 0 rfl rfl 5 (by decide) (hts (.fieldLink RX0 27 "EditGraph" "ancestorSets" "[J") (by decide +kernel)) (fun _ h9 => h9) rfl dX0_isLater_11 ?_
  refine lv_iload_n hx hb dX0_isLater_14 rfl (lv_at hl 1 rfl) ?_
  refine eg_lald hx hb hK hP 5 1 rfl rfl (by omega) (by decide) dX0_isLater_15 ?_
  refine lv_iload_n hx hb dX0_isLater_16 rfl (lv_at hl 2 rfl) ?_
  refine eg_callS (As := [.long (an e0), .int (nI e1)]) (rest := []) hx hb hml hown hts hK (c_X0_has l D cI cJ (an e0) e1 (by omega)) (va_cwS 2 hts gX0_isLater_X0_has rfl rfl rfl (by decide +kernel) ⟨Nat.le_of_ble_eq_true rfl, Nat.le_of_ble_eq_true rfl⟩) rfl hl.1 rfl (Nat.le_of_ble_eq_true rfl) dX0_isLater_17 ⟨Nat.zero_le _, Nat.zero_le _⟩ ?_
  exact W.zret hx hb hr (by first | rfl | exact eb_nar) (fun t9 ht9 _ => ⟨congrArg (fun z => Outcome.returned (some (Value.int z))) (by first | exact rfl), ht9⟩) (fun q h => nomatch h) dX0_isLater_20
set_option maxHeartbeats 4000000 in
set_option maxRecDepth 100000 in
theorem c_X0_version (l : Launch) (D : va_G) (cI cJ : ClassId) (q : Nat → Nat) (n : Nat) (mk lt tg : Nat → Int32) (pa an la kn : Nat → Int64) (fb : Int32) (fh nb te wt bh : Nat → Int32) (a : Nat) (ha : a < 4) : eg_MR D (tyL cI cJ) l yX0_version wsX0_version ({ frames := 1, cells := 0, slots := 0, locals := 21 }) [.ref (q 0), .int (nI a)] (wX q cI cJ (nI n) mk lt tg pa an la kn fb fh nb te wt bh) (some (.long (kn a))) := by
  refine Met.ofW (cc := cX0_version) (maxL := 2) (ret := (some .long)) (by decide) rfl ?_
  intro p e s m args below meth c s₁ B hml hv
  obtain ⟨rfl, hP, hK⟩ := hv
  have hx := B.exec
  have hb := B.bytes
  have hr := B.returns
  have hts := atoms_spec (ws := wsX0_version) B.pre
  have hown : s.vm.findClass RX0 = some m.cls := findClass_of_methodNamed B.named
  have hlocks := B.notSynchronized
  have hin : ∀ w ∈ u_ws RX0 TX0 14, w ∈ wsX0_version := by decide +kernel
  have hl := lv_entry ([.ref (q 0), .int (nI a)]) (n := 2) (Nat.le_of_ble_eq_true rfl)
  rw [lg_entry_eq]
  generalize (lg_sl ([.ref (q 0), .int (nI a)]) ++ List.replicate (2 - (lg_sl ([.ref (q 0), .int (nI a)])).length) Slot.unset).toArray = ls at hl ⊢
  have hl : lv_has ls 2 [(0, .ref (q 0)), (1, .int (nI a))] := hl
  refine lv_aload_n hx hb dX0_version_0 rfl (lv_at hl 0 rfl) ?_
  refine lv_iload_n hx hb dX0_version_1 rfl (lv_at hl 1 rfl) ?_
  refine eg_callV (As := [.int (nI a)]) (rest := []) hx hb hml hown hts hK hP (c_X0_checkAuthor l D cI cJ q n mk lt tg pa an la kn fb fh nb te wt bh a (by omega)) (cwV 1 hts gX0_version_X0_checkAuthor rfl rfl rfl (by decide +kernel) ⟨Nat.le_of_ble_eq_true rfl, Nat.le_of_ble_eq_true rfl⟩) (va_recv hK hP (ci := 0) (q0 := 0) rfl rfl) rfl hl.1 rfl (Nat.le_of_ble_eq_true rfl) dX0_version_2 ⟨Nat.zero_le _, Nat.zero_le _⟩ ?_
  refine lv_aload_n hx hb dX0_version_5 rfl (lv_at hl 0 rfl) ?_
  refine va_get (D := D) (ci := 0) (v := .ref (q 7)) (C := RX0) (T := TX0) (N := 14) hx hb hts hin hown hK hP 0 rfl rfl 7 (by decide) (hts (.fieldLink RX0 33 "EditGraph" "knownSets" "[J") (by decide +kernel)) (fun _ h9 => h9) rfl dX0_version_6 ?_
  refine lv_iload_n hx hb dX0_version_9 rfl (lv_at hl 1 rfl) ?_
  refine eg_lald hx hb hK hP 7 1 rfl rfl (by omega) (by decide) dX0_version_10 ?_
  exact W.lret hx hb hr (fun t9 ht9 _ => ⟨congrArg (fun z => Outcome.returned (some (Value.long z))) (by first | exact rfl), ht9⟩) (fun q h => nomatch h) dX0_version_11
set_option maxHeartbeats 4000000 in
set_option maxRecDepth 100000 in
theorem c_X0_heads (l : Launch) (D : va_G) (cI cJ : ClassId) (q : Nat → Nat) (n : Nat) (mk lt tg : Nat → Int32) (pa an la kn : Nat → Int64) (fb : Int32) (fh nb te wt bh : Nat → Int32) (a : Nat) (hI : Inv n lt tg an kn) (ha : a < 4) : eg_MR D (tyL cI cJ) l yX0_heads wsX0_heads ({ frames := 3, cells := 0, slots := 0, locals := 67 }) [.ref (q 0), .int (nI a)] (wX q cI cJ (nI n) mk lt tg pa an la kn fb fh nb te wt bh) (some (.long (hdX pa (kn a) n))) := by
  refine Met.ofW (cc := cX0_heads) (maxL := 2) (ret := (some .long)) (by decide) rfl ?_
  intro p e s m args below meth c s₁ B hml hv
  obtain ⟨rfl, hP, hK⟩ := hv
  have hx := B.exec
  have hb := B.bytes
  have hr := B.returns
  have hts := atoms_spec (ws := wsX0_heads) B.pre
  have hown : s.vm.findClass RX0 = some m.cls := findClass_of_methodNamed B.named
  have hlocks := B.notSynchronized
  have hin : ∀ w ∈ u_ws RX0 TX0 14, w ∈ wsX0_heads := by decide +kernel
  have hl := lv_entry ([.ref (q 0), .int (nI a)]) (n := 2) (Nat.le_of_ble_eq_true rfl)
  rw [lg_entry_eq]
  generalize (lg_sl ([.ref (q 0), .int (nI a)]) ++ List.replicate (2 - (lg_sl ([.ref (q 0), .int (nI a)])).length) Slot.unset).toArray = ls at hl ⊢
  have hl : lv_has ls 2 [(0, .ref (q 0)), (1, .int (nI a))] := hl
  refine lv_aload_n hx hb dX0_heads_0 rfl (lv_at hl 0 rfl) ?_
  refine lv_iload_n hx hb dX0_heads_1 rfl (lv_at hl 1 rfl) ?_
  refine eg_callV (As := [.int (nI a)]) (rest := []) hx hb hml hown hts hK hP (c_X0_checkAuthor l D cI cJ q n mk lt tg pa an la kn fb fh nb te wt bh a (by omega)) (cwV 1 hts gX0_heads_X0_checkAuthor rfl rfl rfl (by decide +kernel) ⟨Nat.le_of_ble_eq_true rfl, Nat.le_of_ble_eq_true rfl⟩) (va_recv hK hP (ci := 0) (q0 := 0) rfl rfl) rfl hl.1 rfl (Nat.le_of_ble_eq_true rfl) dX0_heads_2 ⟨Nat.zero_le _, Nat.zero_le _⟩ ?_
  refine lv_aload_n hx hb dX0_heads_5 rfl (lv_at hl 0 rfl) ?_
  refine lv_aload_n hx hb dX0_heads_6 rfl (lv_at hl 0 rfl) ?_
  refine va_get (D := D) (ci := 0) (v := .ref (q 7)) (C := RX0) (T := TX0) (N := 14) hx hb hts hin hown hK hP 0 rfl rfl 7 (by decide) (hts (.fieldLink RX0 33 "EditGraph" "knownSets" "[J") (by decide +kernel)) (fun _ h9 => h9) rfl dX0_heads_7 ?_
  refine lv_iload_n hx hb dX0_heads_10 rfl (lv_at hl 1 rfl) ?_
  refine eg_lald hx hb hK hP 7 1 rfl rfl (by omega) (by decide) dX0_heads_11 ?_
  refine eg_callV (As := [.long (kn a)]) (rest := []) hx hb hml hown hts hK hP (c_X0_headsOf l D cI cJ q n mk lt tg pa an la kn fb fh nb te wt bh (kn a) hI.1) (cwV 1 hts gX0_heads_X0_headsOf rfl rfl rfl (by decide +kernel) ⟨Nat.le_of_ble_eq_true rfl, Nat.le_of_ble_eq_true rfl⟩) (va_recv hK hP (ci := 0) (q0 := 0) rfl rfl) rfl hl.1 rfl (Nat.le_of_ble_eq_true rfl) dX0_heads_12 ⟨Nat.zero_le _, Nat.zero_le _⟩ ?_
  exact W.lret hx hb hr (fun t9 ht9 _ => ⟨congrArg (fun z => Outcome.returned (some (Value.long z))) (by first | exact rfl), ht9⟩) (fun q h => nomatch h) dX0_heads_15
set_option maxHeartbeats 4000000 in
set_option maxRecDepth 100000 in
theorem c_X0_commonHeads (l : Launch) (D : va_G) (cI cJ : ClassId) (q : Nat → Nat) (n : Nat) (mk lt tg : Nat → Int32) (pa an la kn : Nat → Int64) (fb : Int32) (fh nb te wt bh : Nat → Int32) (a : Nat) (b : Nat) (hI : Inv n lt tg an kn) (ha : a < 4) (hb4 : b < 4) : eg_MR D (tyL cI cJ) l yX0_commonHeads wsX0_commonHeads ({ frames := 3, cells := 0, slots := 0, locals := 67 }) [.ref (q 0), .int (nI a), .int (nI b)] (wX q cI cJ (nI n) mk lt tg pa an la kn fb fh nb te wt bh) (some (.long (hdX pa (kn a &&& kn b) n))) := by
  refine Met.ofW (cc := cX0_commonHeads) (maxL := 3) (ret := (some .long)) (by decide) rfl ?_
  intro p e s m args below meth c s₁ B hml hv
  obtain ⟨rfl, hP, hK⟩ := hv
  have hx := B.exec
  have hb := B.bytes
  have hr := B.returns
  have hts := atoms_spec (ws := wsX0_commonHeads) B.pre
  have hown : s.vm.findClass RX0 = some m.cls := findClass_of_methodNamed B.named
  have hlocks := B.notSynchronized
  have hin : ∀ w ∈ u_ws RX0 TX0 14, w ∈ wsX0_commonHeads := by decide +kernel
  have hl := lv_entry ([.ref (q 0), .int (nI a), .int (nI b)]) (n := 3) (Nat.le_of_ble_eq_true rfl)
  rw [lg_entry_eq]
  generalize (lg_sl ([.ref (q 0), .int (nI a), .int (nI b)]) ++ List.replicate (3 - (lg_sl ([.ref (q 0), .int (nI a), .int (nI b)])).length) Slot.unset).toArray = ls at hl ⊢
  have hl : lv_has ls 3 [(0, .ref (q 0)), (1, .int (nI a)), (2, .int (nI b))] := hl
  refine lv_aload_n hx hb dX0_commonHeads_0 rfl (lv_at hl 0 rfl) ?_
  refine lv_iload_n hx hb dX0_commonHeads_1 rfl (lv_at hl 1 rfl) ?_
  refine eg_callV (As := [.int (nI a)]) (rest := []) hx hb hml hown hts hK hP (c_X0_checkAuthor l D cI cJ q n mk lt tg pa an la kn fb fh nb te wt bh a (by omega)) (cwV 1 hts gX0_commonHeads_X0_checkAuthor rfl rfl rfl (by decide +kernel) ⟨Nat.le_of_ble_eq_true rfl, Nat.le_of_ble_eq_true rfl⟩) (va_recv hK hP (ci := 0) (q0 := 0) rfl rfl) rfl hl.1 rfl (Nat.le_of_ble_eq_true rfl) dX0_commonHeads_2 ⟨Nat.zero_le _, Nat.zero_le _⟩ ?_
  refine lv_aload_n hx hb dX0_commonHeads_5 rfl (lv_at hl 0 rfl) ?_
  refine lv_iload_n hx hb dX0_commonHeads_6 rfl (lv_at hl 2 rfl) ?_
  refine eg_callV (As := [.int (nI b)]) (rest := []) hx hb hml hown hts hK hP (c_X0_checkAuthor l D cI cJ q n mk lt tg pa an la kn fb fh nb te wt bh b (by omega)) (cwV 1 hts gX0_commonHeads_X0_checkAuthor rfl rfl rfl (by decide +kernel) ⟨Nat.le_of_ble_eq_true rfl, Nat.le_of_ble_eq_true rfl⟩) (va_recv hK hP (ci := 0) (q0 := 0) rfl rfl) rfl hl.1 rfl (Nat.le_of_ble_eq_true rfl) dX0_commonHeads_7 ⟨Nat.zero_le _, Nat.zero_le _⟩ ?_
  refine lv_aload_n hx hb dX0_commonHeads_10 rfl (lv_at hl 0 rfl) ?_
  refine lv_aload_n hx hb dX0_commonHeads_11 rfl (lv_at hl 0 rfl) ?_
  refine va_get (D := D) (ci := 0) (v := .ref (q 7)) (C := RX0) (T := TX0) (N := 14) hx hb hts hin hown hK hP 0 rfl rfl 7 (by decide) (hts (.fieldLink RX0 33 "EditGraph" "knownSets" "[J") (by decide +kernel)) (fun _ h9 => h9) rfl dX0_commonHeads_12 ?_
  refine lv_iload_n hx hb dX0_commonHeads_15 rfl (lv_at hl 1 rfl) ?_
  refine eg_lald hx hb hK hP 7 1 rfl rfl (by omega) (by decide) dX0_commonHeads_16 ?_
  refine lv_aload_n hx hb dX0_commonHeads_17 rfl (lv_at hl 0 rfl) ?_
  refine va_get (D := D) (ci := 0) (v := .ref (q 7)) (C := RX0) (T := TX0) (N := 14) hx hb hts hin hown hK hP 0 rfl rfl 7 (by decide) (hts (.fieldLink RX0 33 "EditGraph" "knownSets" "[J") (by decide +kernel)) (fun _ h9 => h9) rfl dX0_commonHeads_18 ?_
  refine lv_iload_n hx hb dX0_commonHeads_21 rfl (lv_at hl 2 rfl) ?_
  refine eg_lald hx hb hK hP 7 1 rfl rfl (by omega) (by decide) dX0_commonHeads_22 ?_
  refine lv_land hx hb dX0_commonHeads_23 ?_
  refine eg_callV (As := [.long ((kn a) &&& (kn b))]) (rest := []) hx hb hml hown hts hK hP (c_X0_headsOf l D cI cJ q n mk lt tg pa an la kn fb fh nb te wt bh ((kn a) &&& (kn b)) hI.1) (cwV 1 hts gX0_commonHeads_X0_headsOf rfl rfl rfl (by decide +kernel) ⟨Nat.le_of_ble_eq_true rfl, Nat.le_of_ble_eq_true rfl⟩) (va_recv hK hP (ci := 0) (q0 := 0) rfl rfl) rfl hl.1 rfl (Nat.le_of_ble_eq_true rfl) dX0_commonHeads_24 ⟨Nat.zero_le _, Nat.zero_le _⟩ ?_
  exact W.lret hx hb hr (fun t9 ht9 _ => ⟨congrArg (fun z => Outcome.returned (some (Value.long z))) (by first | exact rfl), ht9⟩) (fun q h => nomatch h) dX0_commonHeads_27
set_option maxHeartbeats 4000000 in
set_option maxRecDepth 100000 in
theorem c_X0_critical (l : Launch) (D : va_G) (cI cJ : ClassId) (q : Nat → Nat) (n : Nat) (mk lt tg : Nat → Int32) (pa an la kn : Nat → Int64) (fb : Int32) (fh nb te wt bh : Nat → Int32) (a : Nat) (hI : Inv n lt tg an kn) (ha : a < 4) : eg_MR D (tyL cI cJ) l yX0_critical wsX0_critical ({ frames := 4, cells := 0, slots := 0, locals := 87 }) [.ref (q 0), .int (nI a)] (wX q cI cJ (nI n) mk lt tg pa an la kn fb fh nb te wt bh) (some (.long (cO an la (kn a) n))) := by
  refine Met.ofW (cc := cX0_critical) (maxL := 2) (ret := (some .long)) (by decide) rfl ?_
  intro p e s m args below meth c s₁ B hml hv
  obtain ⟨rfl, hP, hK⟩ := hv
  have hx := B.exec
  have hb := B.bytes
  have hr := B.returns
  have hts := atoms_spec (ws := wsX0_critical) B.pre
  have hown : s.vm.findClass RX0 = some m.cls := findClass_of_methodNamed B.named
  have hlocks := B.notSynchronized
  have hin : ∀ w ∈ u_ws RX0 TX0 14, w ∈ wsX0_critical := by decide +kernel
  have hl := lv_entry ([.ref (q 0), .int (nI a)]) (n := 2) (Nat.le_of_ble_eq_true rfl)
  rw [lg_entry_eq]
  generalize (lg_sl ([.ref (q 0), .int (nI a)]) ++ List.replicate (2 - (lg_sl ([.ref (q 0), .int (nI a)])).length) Slot.unset).toArray = ls at hl ⊢
  have hl : lv_has ls 2 [(0, .ref (q 0)), (1, .int (nI a))] := hl
  refine lv_aload_n hx hb dX0_critical_0 rfl (lv_at hl 0 rfl) ?_
  refine lv_iload_n hx hb dX0_critical_1 rfl (lv_at hl 1 rfl) ?_
  refine eg_callV (As := [.int (nI a)]) (rest := []) hx hb hml hown hts hK hP (c_X0_checkAuthor l D cI cJ q n mk lt tg pa an la kn fb fh nb te wt bh a (by omega)) (cwV 1 hts gX0_critical_X0_checkAuthor rfl rfl rfl (by decide +kernel) ⟨Nat.le_of_ble_eq_true rfl, Nat.le_of_ble_eq_true rfl⟩) (va_recv hK hP (ci := 0) (q0 := 0) rfl rfl) rfl hl.1 rfl (Nat.le_of_ble_eq_true rfl) dX0_critical_2 ⟨Nat.zero_le _, Nat.zero_le _⟩ ?_
  refine lv_aload_n hx hb dX0_critical_5 rfl (lv_at hl 0 rfl) ?_
  refine lv_aload_n hx hb dX0_critical_6 rfl (lv_at hl 0 rfl) ?_
  refine va_get (D := D) (ci := 0) (v := .ref (q 7)) (C := RX0) (T := TX0) (N := 14) hx hb hts hin hown hK hP 0 rfl rfl 7 (by decide) (hts (.fieldLink RX0 33 "EditGraph" "knownSets" "[J") (by decide +kernel)) (fun _ h9 => h9) rfl dX0_critical_7 ?_
  refine lv_iload_n hx hb dX0_critical_10 rfl (lv_at hl 1 rfl) ?_
  refine eg_lald hx hb hK hP 7 1 rfl rfl (by omega) (by decide) dX0_critical_11 ?_
  refine eg_callV (As := [.long (kn a)]) (rest := []) hx hb hml hown hts hK hP (c_X0_criticalOf l D cI cJ q n mk lt tg pa an la kn fb fh nb te wt bh (kn a) hI.1) (cwV 1 hts gX0_critical_X0_criticalOf rfl rfl rfl (by decide +kernel) ⟨Nat.le_of_ble_eq_true rfl, Nat.le_of_ble_eq_true rfl⟩) (va_recv hK hP (ci := 0) (q0 := 0) rfl rfl) rfl hl.1 rfl (Nat.le_of_ble_eq_true rfl) dX0_critical_12 ⟨Nat.zero_le _, Nat.zero_le _⟩ ?_
  exact W.lret hx hb hr (fun t9 ht9 _ => ⟨congrArg (fun z => Outcome.returned (some (Value.long z))) (by first | exact rfl), ht9⟩) (fun q h => nomatch h) dX0_critical_15
