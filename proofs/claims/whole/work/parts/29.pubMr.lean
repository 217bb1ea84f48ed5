-- the reference: its readers (by gen.py, specR.py)
set_option maxHeartbeats 4000000 in
set_option maxRecDepth 100000 in
theorem c_X1_events (l : Launch) (D : va_G) (cI cJ : ClassId) (q : Nat → Nat) (n : Nat) (mk lt tg : Nat → Int32) (pa an kn : Nat → Int64) (row : Nat → Int32) (len thr : Int32) : eg_MW D (tyL cI cJ) l yX1_events wsX1_events ({ frames := 0, cells := 0, slots := 0, locals := 0 }) 0 0 [.ref (q 0)] (wM q cI cJ (nI n) mk lt tg pa an kn row len thr) (fun r w1 => r = some (.int (nI n)) ∧ w1 = wM q cI cJ (nI n) mk lt tg pa an kn row len (nI 0)) := by
  refine Met.ofW (cc := cX1_events) (maxL := 1) (ret := (some .int)) (by decide) rfl ?_
  intro p e s m args below meth c s₁ B hml hv
  obtain ⟨rfl, hP, hK, hD0⟩ := hv
  have hx := B.exec
  have hb := B.bytes
  have hr := B.returns
  have hts := atoms_spec (ws := wsX1_events) B.pre
  have hown : s.vm.findClass RX1 = some m.cls := findClass_of_methodNamed B.named
  have hlocks := B.notSynchronized
  have hD := eg_D_of hD0
  have hS : va_S (eg_A (wM q cI cJ (nI n) mk lt tg pa an kn row len thr)) s.heap s.heap [] := va_S.rf
  have hin : ∀ w ∈ u_ws RX1 TX1 10, w ∈ wsX1_events := by decide +kernel
  have hl := lv_entry ([.ref (q 0)]) (n := 1) (Nat.le_of_ble_eq_true rfl)
  rw [lg_entry_eq]
  generalize (lg_sl ([.ref (q 0)]) ++ List.replicate (1 - (lg_sl ([.ref (q 0)])).length) Slot.unset).toArray = ls at hl ⊢
  have hl : lv_has ls 1 [(0, .ref (q 0))] := hl
  generalize h0H : s.heap = H at hP ⊢
  have hS : va_S (eg_A (wM q cI cJ (nI n) mk lt tg pa an kn row len thr)) s.heap H [] := by rw [← h0H]; exact hS
  generalize ([] : List Loc) = locs at hS ⊢
  refine lv_aload_n hx hb dX1_events_0 rfl (lv_at hl 0 rfl) ?_
  refine lv_iconst (v := nI 0) hx hb dX1_events_1 (by decide +kernel) ?_
  refine va_put (D := D) (ci := 1) (v := .int (nI 0)) (ty := .int) (C := RX1) (T := TX1) (N := 10) hx hb hts hin tyX1 tyX1_ok nmX1 hown hK hP (eg_D_same hD rfl) hS 0 rfl rfl 9 (by decide) (hts (.fieldLink RX1 32 "EditGraphModel" "thrown" "I") (by decide +kernel)) (fun _ h9 => h9) rfl (by decide +kernel) rfl rfl (Nat.le_of_ble_eq_true rfl) dX1_events_2 (fun H locs hP _ hS => ?_)
  have hP : va_P D vwCl (wM q cI cJ (nI n) mk lt tg pa an kn row len (nI 0)) H := hP
  refine lv_aload_n hx hb dX1_events_5 rfl (lv_at hl 0 rfl) ?_
  refine va_get (D := D) (ci := 1) (v := .int (nI n)) (C := RX1) (T := TX1) (N := 10) hx hb hts hin hown hK hP 0 rfl rfl 5 (by decide) (hts (.fieldLink RX1 40 "EditGraphModel" "events" "I") (by decide +kernel)) (fun _ h9 => h9) rfl dX1_events_6 ?_
  exact W.iret hx hb hr (fun t9 ht9 _ => ⟨some (.int (nI n)), (wM q cI cJ (nI n) mk lt tg pa an kn row len (nI 0)), rfl, ⟨rfl, rfl⟩, rfl, by rw [ht9]; exact hP, hS.F ht9⟩) hS.2.2 dX1_events_9
set_option maxHeartbeats 4000000 in
set_option maxRecDepth 100000 in
theorem c_X1_length (l : Launch) (D : va_G) (cI cJ : ClassId) (q : Nat → Nat) (n : Nat) (mk lt tg : Nat → Int32) (pa an kn : Nat → Int64) (row : Nat → Int32) (len thr : Int32) (a : Nat) (hI : Inv n lt tg an kn) (ha : a < 4) : eg_MW D (tyL cI cJ) l yX1_length wsX1_length ({ frames := 3, cells := 0, slots := 0, locals := 70 }) 0 0 [.ref (q 0), .int (nI a)] (wM q cI cJ (nI n) mk lt tg pa an kn row len thr) (fun r w1 => ∃ (row' : Nat → Int32) (len' : Int32), r = some (.int (nI (tx n lt tg (kn a)).length)) ∧ w1 = wM q cI cJ (nI n) mk lt tg pa an kn row' len' (nI 0)) := by
  refine Met.ofW (cc := cX1_length) (maxL := 2) (ret := (some .int)) (by decide) rfl ?_
  intro p e s m args below meth c s₁ B hml hv
  obtain ⟨rfl, hP, hK, hD0⟩ := hv
  have hx := B.exec
  have hb := B.bytes
  have hr := B.returns
  have hts := atoms_spec (ws := wsX1_length) B.pre
  have hown : s.vm.findClass RX1 = some m.cls := findClass_of_methodNamed B.named
  have hlocks := B.notSynchronized
  have hD := eg_D_of hD0
  have hS : va_S (eg_A (wM q cI cJ (nI n) mk lt tg pa an kn row len thr)) s.heap s.heap [] := va_S.rf
  have hin : ∀ w ∈ u_ws RX1 TX1 10, w ∈ wsX1_length := by decide +kernel
  have hl := lv_entry ([.ref (q 0), .int (nI a)]) (n := 2) (Nat.le_of_ble_eq_true rfl)
  rw [lg_entry_eq]
  generalize (lg_sl ([.ref (q 0), .int (nI a)]) ++ List.replicate (2 - (lg_sl ([.ref (q 0), .int (nI a)])).length) Slot.unset).toArray = ls at hl ⊢
  have hl : lv_has ls 2 [(0, .ref (q 0)), (1, .int (nI a))] := hl
  generalize h0H : s.heap = H at hP ⊢
  have hS : va_S (eg_A (wM q cI cJ (nI n) mk lt tg pa an kn row len thr)) s.heap H [] := by rw [← h0H]; exact hS
  generalize ([] : List Loc) = locs at hS ⊢
  refine lv_aload_n hx hb dX1_length_0 rfl (lv_at hl 0 rfl) ?_
  refine lv_aload_n hx hb dX1_length_1 rfl (lv_at hl 0 rfl) ?_
  refine lv_iload_n hx hb dX1_length_2 rfl (lv_at hl 1 rfl) ?_
  refine eg_callWV (As := [.int (nI a)]) (rest := [.ref (q 0)]) hx hb hml hown hts hK hP hD rfl hS (c_X1_looks l D cI cJ q n mk lt tg pa an kn row len thr a hI ha) (cwV 1 hts gX1_length_X1_looks rfl rfl rfl (by decide +kernel) ⟨Nat.le_of_ble_eq_true rfl, Nat.le_of_ble_eq_true rfl⟩) (va_recv hK hP (ci := 1) (q0 := 0) rfl rfl) rfl hl.1 rfl (Nat.le_of_ble_eq_true rfl) dX1_length_3 ⟨Nat.zero_le _, Nat.zero_le _⟩ (fun v9 w9 H locs hR9 hw9 hP hS => ?_)
  obtain ⟨row1, rfl, rfl, hh⟩ := hR9
  have hT9 := tx_len hI (hI.vk ha)
  have hI1 := hI.1
  refine eg_callWV (As := [.int (eb true)]) (rest := []) hx hb hml hown hts hK hP hD rfl hS (c_X1_asked_t l D cI cJ q n mk lt tg pa an kn row1 (nI (tx n lt tg (kn a)).length) thr  ) (cwV 1 hts gX1_length_X1_asked rfl rfl rfl (by decide +kernel) ⟨Nat.le_of_ble_eq_true rfl, Nat.le_of_ble_eq_true rfl⟩) (va_recv hK hP (ci := 1) (q0 := 0) rfl rfl) rfl hl.1 rfl (Nat.le_of_ble_eq_true rfl) dX1_length_6 ⟨Nat.zero_le _, Nat.zero_le _⟩ (fun v9 w9 H locs hR9 hw9 hP hS => ?_)
  obtain ⟨rfl, rfl⟩ := hR9
  refine eg_ifeq_b (tgt := 19) hx hb dX1_length_9 (by decide) (fun h => Bool.noConfusion h) (fun _ => ?_)
  refine lv_aload_n hx hb dX1_length_12 rfl (lv_at hl 0 rfl) ?_
  refine va_get (D := D) (ci := 1) (v := .int (nI ((tx n lt tg (kn a)).length))) (C := RX1) (T := TX1) (N := 10) hx hb hts hin hown hK hP 0 rfl rfl 8 (by decide) (hts (.fieldLink RX1 49 "EditGraphModel" "length" "I") (by decide +kernel)) (fun _ h9 => h9) rfl dX1_length_13 ?_
  refine lv_goto (tgt := 20) hx hb dX1_length_16 (by decide) ?_
  exact W.iret hx hb hr (fun t9 ht9 _ => ⟨some (.int (nI ((tx n lt tg (kn a)).length))), (wM q cI cJ (nI n) mk lt tg pa an kn row1 (nI (tx n lt tg (kn a)).length) (nI 0)), rfl, ⟨_, _, rfl, rfl⟩, rfl, by rw [ht9]; exact hP, hS.F ht9⟩) hS.2.2 dX1_length_20
set_option maxHeartbeats 4000000 in
set_option maxRecDepth 100000 in
theorem c_X1_length_no1 (l : Launch) (D : va_G) (cI cJ : ClassId) (q : Nat → Nat) (n : Nat) (mk lt tg : Nat → Int32) (pa an kn : Nat → Int64) (row : Nat → Int32) (len thr : Int32) (x : Int32) (hbad : bad 4 x) : eg_MW D (tyL cI cJ) l yX1_length wsX1_length ({ frames := 3, cells := 0, slots := 0, locals := 64 }) 0 0 [.ref (q 0), .int x] (wM q cI cJ (nI n) mk lt tg pa an kn row len thr) (fun r w1 => ∃ (row' : Nat → Int32) (len' : Int32), r = some (.int (nI 0)) ∧ w1 = wM q cI cJ (nI n) mk lt tg pa an kn row' len' (nI 1)) := by
  refine Met.ofW (cc := cX1_length) (maxL := 2) (ret := (some .int)) (by decide) rfl ?_
  intro p e s m args below meth c s₁ B hml hv
  obtain ⟨rfl, hP, hK, hD0⟩ := hv
  have hx := B.exec
  have hb := B.bytes
  have hr := B.returns
  have hts := atoms_spec (ws := wsX1_length) B.pre
  have hown : s.vm.findClass RX1 = some m.cls := findClass_of_methodNamed B.named
  have hlocks := B.notSynchronized
  have hD := eg_D_of hD0
  have hS : va_S (eg_A (wM q cI cJ (nI n) mk lt tg pa an kn row len thr)) s.heap s.heap [] := va_S.rf
  have hin : ∀ w ∈ u_ws RX1 TX1 10, w ∈ wsX1_length := by decide +kernel
  have hl := lv_entry ([.ref (q 0), .int x]) (n := 2) (Nat.le_of_ble_eq_true rfl)
  rw [lg_entry_eq]
  generalize (lg_sl ([.ref (q 0), .int x]) ++ List.replicate (2 - (lg_sl ([.ref (q 0), .int x])).length) Slot.unset).toArray = ls at hl ⊢
  have hl : lv_has ls 2 [(0, .ref (q 0)), (1, .int x)] := hl
  generalize h0H : s.heap = H at hP ⊢
  have hS : va_S (eg_A (wM q cI cJ (nI n) mk lt tg pa an kn row len thr)) s.heap H [] := by rw [← h0H]; exact hS
  generalize ([] : List Loc) = locs at hS ⊢
  refine lv_aload_n hx hb dX1_length_0 rfl (lv_at hl 0 rfl) ?_
  refine lv_aload_n hx hb dX1_length_1 rfl (lv_at hl 0 rfl) ?_
  refine lv_iload_n hx hb dX1_length_2 rfl (lv_at hl 1 rfl) ?_
  refine eg_callWV (As := [.int x]) (rest := [.ref (q 0)]) hx hb hml hown hts hK hP hD rfl hS (c_X1_looks_no l D cI cJ q n mk lt tg pa an kn row len thr x hbad) (cwV 1 hts gX1_length_X1_looks rfl rfl rfl (by decide +kernel) ⟨Nat.le_of_ble_eq_true rfl, Nat.le_of_ble_eq_true rfl⟩) (va_recv hK hP (ci := 1) (q0 := 0) rfl rfl) rfl hl.1 rfl (Nat.le_of_ble_eq_true rfl) dX1_length_3 ⟨Nat.zero_le _, Nat.zero_le _⟩ (fun v9 w9 H locs hR9 hw9 hP hS => ?_)
  obtain ⟨rfl, rfl⟩ := hR9
  refine eg_callWV (As := [.int (eb false)]) (rest := []) hx hb hml hown hts hK hP hD rfl hS (c_X1_asked_f l D cI cJ q n mk lt tg pa an kn row len thr  ) (cwV 1 hts gX1_length_X1_asked rfl rfl rfl (by decide +kernel) ⟨Nat.le_of_ble_eq_true rfl, Nat.le_of_ble_eq_true rfl⟩) (va_recv hK hP (ci := 1) (q0 := 0) rfl rfl) rfl hl.1 rfl (Nat.le_of_ble_eq_true rfl) dX1_length_6 ⟨Nat.zero_le _, Nat.zero_le _⟩ (fun v9 w9 H locs hR9 hw9 hP hS => ?_)
  obtain ⟨rfl, rfl⟩ := hR9
  refine eg_ifeq_b (tgt := 19) hx hb dX1_length_9 (by decide) (fun _ => ?_) (fun h => Bool.noConfusion h)
  refine lv_iconst (v := nI 0) hx hb dX1_length_19 (by decide +kernel) ?_
  exact W.iret hx hb hr (fun t9 ht9 _ => ⟨some (.int (nI 0)), (wM q cI cJ (nI n) mk lt tg pa an kn row len (nI 1)), rfl, ⟨_, _, rfl, rfl⟩, rfl, by rw [ht9]; exact hP, hS.F ht9⟩) hS.2.2 dX1_length_20
set_option maxHeartbeats 4000000 in
set_option maxRecDepth 100000 in
theorem c_X1_lengthOf (l : Launch) (D : va_G) (cI cJ : ClassId) (q : Nat → Nat) (n : Nat) (mk lt tg : Nat → Int32) (pa an kn : Nat → Int64) (row : Nat → Int32) (len thr : Int32) (e0 : Nat) (hI : Inv n lt tg an kn) (he : e0 < n) : eg_MW D (tyL cI cJ) l yX1_lengthOf wsX1_lengthOf ({ frames := 3, cells := 0, slots := 0, locals := 70 }) 0 0 [.ref (q 0), .int (nI e0)] (wM q cI cJ (nI n) mk lt tg pa an kn row len thr) (fun r w1 => ∃ (row' : Nat → Int32) (len' : Int32), r = some (.int (nI (tx n lt tg (an e0 ||| ol e0)).length)) ∧ w1 = wM q cI cJ (nI n) mk lt tg pa an kn row' len' (nI 0)) := by
  refine Met.ofW (cc := cX1_lengthOf) (maxL := 2) (ret := (some .int)) (by decide) rfl ?_
  intro p e s m args below meth c s₁ B hml hv
  obtain ⟨rfl, hP, hK, hD0⟩ := hv
  have hx := B.exec
  have hb := B.bytes
  have hr := B.returns
  have hts := atoms_spec (ws := wsX1_lengthOf) B.pre
  have hown : s.vm.findClass RX1 = some m.cls := findClass_of_methodNamed B.named
  have hlocks := B.notSynchronized
  have hD := eg_D_of hD0
  have hS : va_S (eg_A (wM q cI cJ (nI n) mk lt tg pa an kn row len thr)) s.heap s.heap [] := va_S.rf
  have hin : ∀ w ∈ u_ws RX1 TX1 10, w ∈ wsX1_lengthOf := by decide +kernel
  have hl := lv_entry ([.ref (q 0), .int (nI e0)]) (n := 2) (Nat.le_of_ble_eq_true rfl)
  rw [lg_entry_eq]
  generalize (lg_sl ([.ref (q 0), .int (nI e0)]) ++ List.replicate (2 - (lg_sl ([.ref (q 0), .int (nI e0)])).length) Slot.unset).toArray = ls at hl ⊢
  have hl : lv_has ls 2 [(0, .ref (q 0)), (1, .int (nI e0))] := hl
  generalize h0H : s.heap = H at hP ⊢
  have hS : va_S (eg_A (wM q cI cJ (nI n) mk lt tg pa an kn row len thr)) s.heap H [] := by rw [← h0H]; exact hS
  generalize ([] : List Loc) = locs at hS ⊢
  refine lv_aload_n hx hb dX1_lengthOf_0 rfl (lv_at hl 0 rfl) ?_
  refine lv_aload_n hx hb dX1_lengthOf_1 rfl (lv_at hl 0 rfl) ?_
  refine lv_iload_n hx hb dX1_lengthOf_2 rfl (lv_at hl 1 rfl) ?_
  refine eg_callWV (As := [.int (nI e0)]) (rest := [.ref (q 0)]) hx hb hml hown hts hK hP hD rfl hS (c_X1_looksAt l D cI cJ q n mk lt tg pa an kn row len thr e0 hI he) (cwV 1 hts gX1_lengthOf_X1_looksAt rfl rfl rfl (by decide +kernel) ⟨Nat.le_of_ble_eq_true rfl, Nat.le_of_ble_eq_true rfl⟩) (va_recv hK hP (ci := 1) (q0 := 0) rfl rfl) rfl hl.1 rfl (Nat.le_of_ble_eq_true rfl) dX1_lengthOf_3 ⟨Nat.zero_le _, Nat.zero_le _⟩ (fun v9 w9 H locs hR9 hw9 hP hS => ?_)
  obtain ⟨row1, rfl, rfl, hh⟩ := hR9
  have hT9 := tx_len hI (hI.ve he)
  have hI1 := hI.1
  refine eg_callWV (As := [.int (eb true)]) (rest := []) hx hb hml hown hts hK hP hD rfl hS (c_X1_asked_t l D cI cJ q n mk lt tg pa an kn row1 (nI (tx n lt tg (an e0 ||| ol e0)).length) thr  ) (cwV 1 hts gX1_lengthOf_X1_asked rfl rfl rfl (by decide +kernel) ⟨Nat.le_of_ble_eq_true rfl, Nat.le_of_ble_eq_true rfl⟩) (va_recv hK hP (ci := 1) (q0 := 0) rfl rfl) rfl hl.1 rfl (Nat.le_of_ble_eq_true rfl) dX1_lengthOf_6 ⟨Nat.zero_le _, Nat.zero_le _⟩ (fun v9 w9 H locs hR9 hw9 hP hS => ?_)
  obtain ⟨rfl, rfl⟩ := hR9
  refine eg_ifeq_b (tgt := 19) hx hb dX1_lengthOf_9 (by decide) (fun h => Bool.noConfusion h) (fun _ => ?_)
  refine lv_aload_n hx hb dX1_lengthOf_12 rfl (lv_at hl 0 rfl) ?_
  refine va_get (D := D) (ci := 1) (v := .int (nI ((tx n lt tg (an e0 ||| ol e0)).length))) (C := RX1) (T := TX1) (N := 10) hx hb hts hin hown hK hP 0 rfl rfl 8 (by decide) (hts (.fieldLink RX1 49 "EditGraphModel" "length" "I") (by decide +kernel)) (fun _ h9 => h9) rfl dX1_lengthOf_13 ?_
  refine lv_goto (tgt := 20) hx hb dX1_lengthOf_16 (by decide) ?_
  exact W.iret hx hb hr (fun t9 ht9 _ => ⟨some (.int (nI ((tx n lt tg (an e0 ||| ol e0)).length))), (wM q cI cJ (nI n) mk lt tg pa an kn row1 (nI (tx n lt tg (an e0 ||| ol e0)).length) (nI 0)), rfl, ⟨_, _, rfl, rfl⟩, rfl, by rw [ht9]; exact hP, hS.F ht9⟩) hS.2.2 dX1_lengthOf_20
set_option maxHeartbeats 4000000 in
set_option maxRecDepth 100000 in
theorem c_X1_lengthOf_no1 (l : Launch) (D : va_G) (cI cJ : ClassId) (q : Nat → Nat) (n : Nat) (mk lt tg : Nat → Int32) (pa an kn : Nat → Int64) (row : Nat → Int32) (len thr : Int32) (x : Int32) (hI : Inv n lt tg an kn) (hbad : bad n x) : eg_MW D (tyL cI cJ) l yX1_lengthOf wsX1_lengthOf ({ frames := 3, cells := 0, slots := 0, locals := 65 }) 0 0 [.ref (q 0), .int x] (wM q cI cJ (nI n) mk lt tg pa an kn row len thr) (fun r w1 => ∃ (row' : Nat → Int32) (len' : Int32), r = some (.int (nI 0)) ∧ w1 = wM q cI cJ (nI n) mk lt tg pa an kn row' len' (nI 1)) := by
  refine Met.ofW (cc := cX1_lengthOf) (maxL := 2) (ret := (some .int)) (by decide) rfl ?_
  intro p e s m args below meth c s₁ B hml hv
  obtain ⟨rfl, hP, hK, hD0⟩ := hv
  have hx := B.exec
  have hb := B.bytes
  have hr := B.returns
  have hts := atoms_spec (ws := wsX1_lengthOf) B.pre
  have hown : s.vm.findClass RX1 = some m.cls := findClass_of_methodNamed B.named
  have hlocks := B.notSynchronized
  have hD := eg_D_of hD0
  have hS : va_S (eg_A (wM q cI cJ (nI n) mk lt tg pa an kn row len thr)) s.heap s.heap [] := va_S.rf
  have hin : ∀ w ∈ u_ws RX1 TX1 10, w ∈ wsX1_lengthOf := by decide +kernel
  have hl := lv_entry ([.ref (q 0), .int x]) (n := 2) (Nat.le_of_ble_eq_true rfl)
  rw [lg_entry_eq]
  generalize (lg_sl ([.ref (q 0), .int x]) ++ List.replicate (2 - (lg_sl ([.ref (q 0), .int x])).length) Slot.unset).toArray = ls at hl ⊢
  have hl : lv_has ls 2 [(0, .ref (q 0)), (1, .int x)] := hl
  generalize h0H : s.heap = H at hP ⊢
  have hS : va_S (eg_A (wM q cI cJ (nI n) mk lt tg pa an kn row len thr)) s.heap H [] := by rw [← h0H]; exact hS
  generalize ([] : List Loc) = locs at hS ⊢
  refine lv_aload_n hx hb dX1_lengthOf_0 rfl (lv_at hl 0 rfl) ?_
  refine lv_aload_n hx hb dX1_lengthOf_1 rfl (lv_at hl 0 rfl) ?_
  refine lv_iload_n hx hb dX1_lengthOf_2 rfl (lv_at hl 1 rfl) ?_
  refine eg_callWV (As := [.int x]) (rest := [.ref (q 0)]) hx hb hml hown hts hK hP hD rfl hS (c_X1_looksAt_no l D cI cJ q n mk lt tg pa an kn row len thr x hI hbad) (cwV 1 hts gX1_lengthOf_X1_looksAt rfl rfl rfl (by decide +kernel) ⟨Nat.le_of_ble_eq_true rfl, Nat.le_of_ble_eq_true rfl⟩) (va_recv hK hP (ci := 1) (q0 := 0) rfl rfl) rfl hl.1 rfl (Nat.le_of_ble_eq_true rfl) dX1_lengthOf_3 ⟨Nat.zero_le _, Nat.zero_le _⟩ (fun v9 w9 H locs hR9 hw9 hP hS => ?_)
  obtain ⟨rfl, rfl⟩ := hR9
  refine eg_callWV (As := [.int (eb false)]) (rest := []) hx hb hml hown hts hK hP hD rfl hS (c_X1_asked_f l D cI cJ q n mk lt tg pa an kn row len thr  ) (cwV 1 hts gX1_lengthOf_X1_asked rfl rfl rfl (by decide +kernel) ⟨Nat.le_of_ble_eq_true rfl, Nat.le_of_ble_eq_true rfl⟩) (va_recv hK hP (ci := 1) (q0 := 0) rfl rfl) rfl hl.1 rfl (Nat.le_of_ble_eq_true rfl) dX1_lengthOf_6 ⟨Nat.zero_le _, Nat.zero_le _⟩ (fun v9 w9 H locs hR9 hw9 hP hS => ?_)
  obtain ⟨rfl, rfl⟩ := hR9
  refine eg_ifeq_b (tgt := 19) hx hb dX1_lengthOf_9 (by decide) (fun _ => ?_) (fun h => Bool.noConfusion h)
  refine lv_iconst (v := nI 0) hx hb dX1_lengthOf_19 (by decide +kernel) ?_
  exact W.iret hx hb hr (fun t9 ht9 _ => ⟨some (.int (nI 0)), (wM q cI cJ (nI n) mk lt tg pa an kn row len (nI 1)), rfl, ⟨_, _, rfl, rfl⟩, rfl, by rw [ht9]; exact hP, hS.F ht9⟩) hS.2.2 dX1_lengthOf_20
set_option maxHeartbeats 4000000 in
set_option maxRecDepth 100000 in
theorem c_X1_letterAt (l : Launch) (D : va_G) (cI cJ : ClassId) (q : Nat → Nat) (n : Nat) (mk lt tg : Nat → Int32) (pa an kn : Nat → Int64) (row : Nat → Int32) (len thr : Int32) (a : Nat) (pp : Nat) (hI : Inv n lt tg an kn) (ha : a < 4) (hp : pp < (tx n lt tg (kn a)).length) : eg_MW D (tyL cI cJ) l yX1_letterAt wsX1_letterAt ({ frames := 3, cells := 0, slots := 0, locals := 70 }) 0 0 [.ref (q 0), .int (nI a), .int (nI pp)] (wM q cI cJ (nI n) mk lt tg pa an kn row len thr) (fun r w1 => ∃ (row' : Nat → Int32) (len' : Int32) (x : Nat), (tx n lt tg (kn a))[pp]? = some x ∧ r = some (.int (lt x)) ∧ w1 = wM q cI cJ (nI n) mk lt tg pa an kn row' len' (nI 0)) := by
  refine Met.ofW (cc := cX1_letterAt) (maxL := 3) (ret := (some .int)) (by decide) rfl ?_
  intro p e s m args below meth c s₁ B hml hv
  obtain ⟨rfl, hP, hK, hD0⟩ := hv
  have hx := B.exec
  have hb := B.bytes
  have hr := B.returns
  have hts := atoms_spec (ws := wsX1_letterAt) B.pre
  have hown : s.vm.findClass RX1 = some m.cls := findClass_of_methodNamed B.named
  have hlocks := B.notSynchronized
  have hD := eg_D_of hD0
  have hS : va_S (eg_A (wM q cI cJ (nI n) mk lt tg pa an kn row len thr)) s.heap s.heap [] := va_S.rf
  have hin : ∀ w ∈ u_ws RX1 TX1 10, w ∈ wsX1_letterAt := by decide +kernel
  have hl := lv_entry ([.ref (q 0), .int (nI a), .int (nI pp)]) (n := 3) (Nat.le_of_ble_eq_true rfl)
  rw [lg_entry_eq]
  generalize (lg_sl ([.ref (q 0), .int (nI a), .int (nI pp)]) ++ List.replicate (3 - (lg_sl ([.ref (q 0), .int (nI a), .int (nI pp)])).length) Slot.unset).toArray = ls at hl ⊢
  have hl : lv_has ls 3 [(0, .ref (q 0)), (1, .int (nI a)), (2, .int (nI pp))] := hl
  generalize h0H : s.heap = H at hP ⊢
  have hS : va_S (eg_A (wM q cI cJ (nI n) mk lt tg pa an kn row len thr)) s.heap H [] := by rw [← h0H]; exact hS
  generalize ([] : List Loc) = locs at hS ⊢
  refine lv_aload_n hx hb dX1_letterAt_0 rfl (lv_at hl 0 rfl) ?_
  refine lv_aload_n hx hb dX1_letterAt_1 rfl (lv_at hl 0 rfl) ?_
  refine lv_iload_n hx hb dX1_letterAt_2 rfl (lv_at hl 1 rfl) ?_
  refine eg_callWV (As := [.int (nI a)]) (rest := [.ref (q 0)]) hx hb hml hown hts hK hP hD rfl hS (c_X1_looks l D cI cJ q n mk lt tg pa an kn row len thr a hI ha) (cwV 1 hts gX1_letterAt_X1_looks rfl rfl rfl (by decide +kernel) ⟨Nat.le_of_ble_eq_true rfl, Nat.le_of_ble_eq_true rfl⟩) (va_recv hK hP (ci := 1) (q0 := 0) rfl rfl) rfl hl.1 rfl (Nat.le_of_ble_eq_true rfl) dX1_letterAt_3 ⟨Nat.zero_le _, Nat.zero_le _⟩ (fun v9 w9 H locs hR9 hw9 hP hS => ?_)
  obtain ⟨row1, rfl, rfl, hh⟩ := hR9
  have hT9 := tx_len hI (hI.vk ha)
  have hI1 := hI.1
  refine eg_ifeq_b (tgt := 27) hx hb dX1_letterAt_6 (by decide) (fun h => Bool.noConfusion h) (fun _ => ?_)
  refine lv_iload_n hx hb dX1_letterAt_9 rfl (lv_at hl 2 rfl) ?_
  refine lv_iconst (v := nI 0) hx hb dX1_letterAt_10 (by decide +kernel) ?_
  refine lv_aload_n hx hb dX1_letterAt_11 rfl (lv_at hl 0 rfl) ?_
  refine va_get (D := D) (ci := 1) (v := .int (nI ((tx n lt tg (kn a)).length))) (C := RX1) (T := TX1) (N := 10) hx hb hts hin hown hK hP 0 rfl rfl 8 (by decide) (hts (.fieldLink RX1 49 "EditGraphModel" "length" "I") (by decide +kernel)) (fun _ h9 => h9) rfl dX1_letterAt_12 ?_
  refine lv_iconst (v := nI 1) hx hb dX1_letterAt_15 (by decide +kernel) ?_
  refine lv_isub hx hb dX1_letterAt_16 ?_
  refine eg_callS (As := [.int (nI pp), .int (nI 0), .int ((nI ((tx n lt tg (kn a)).length)) - (nI 1))]) (rest := [.ref (q 0)]) hx hb hml hown hts hK (c_X1_in l D cI cJ (nI pp) (nI 0) ((nI ((tx n lt tg (kn a)).length)) - (nI 1)) ) (va_cwS 3 hts gX1_letterAt_X1_in rfl rfl rfl (by decide +kernel) ⟨Nat.le_of_ble_eq_true rfl, Nat.le_of_ble_eq_true rfl⟩) rfl hl.1 rfl (Nat.le_of_ble_eq_true rfl) dX1_letterAt_17 ⟨Nat.zero_le _, Nat.zero_le _⟩ ?_
  rw [inr_sub (L := ((tx n lt tg (kn a)).length)) _ (by omega)]
  rw [show ev ((tx n lt tg (kn a)).length) (nI pp) = true from ev_nI (by omega) (by omega)]
  refine eg_ifeq_b (tgt := 27) hx hb dX1_letterAt_20 (by decide) (fun h => Bool.noConfusion h) (fun _ => ?_)
  refine lv_iconst (v := nI 1) hx hb dX1_letterAt_23 (by decide +kernel) ?_
  refine lv_goto (tgt := 28) hx hb dX1_letterAt_24 (by decide) ?_
  refine eg_callWV (As := [.int (eb true)]) (rest := []) hx hb hml hown hts hK hP hD rfl hS (c_X1_asked_t l D cI cJ q n mk lt tg pa an kn row1 (nI (tx n lt tg (kn a)).length) thr  ) (cwV 1 hts gX1_letterAt_X1_asked rfl rfl rfl (by decide +kernel) ⟨Nat.le_of_ble_eq_true rfl, Nat.le_of_ble_eq_true rfl⟩) (va_recv hK hP (ci := 1) (q0 := 0) rfl rfl) rfl hl.1 rfl (Nat.le_of_ble_eq_true rfl) dX1_letterAt_28 ⟨Nat.zero_le _, Nat.zero_le _⟩ (fun v9 w9 H locs hR9 hw9 hP hS => ?_)
  obtain ⟨rfl, rfl⟩ := hR9
  refine eg_ifeq_b (tgt := 48) hx hb dX1_letterAt_31 (by decide) (fun h => Bool.noConfusion h) (fun _ => ?_)
  refine lv_aload_n hx hb dX1_letterAt_34 rfl (lv_at hl 0 rfl) ?_
  refine va_get (D := D) (ci := 1) (v := .ref (q 2)) (C := RX1) (T := TX1) (N := 10) hx hb hts hin hown hK hP 0 rfl rfl 1 (by decide) (hts (.fieldLink RX1 13 "EditGraphModel" "letter" "[I") (by decide +kernel)) (fun _ h9 => h9) rfl dX1_letterAt_35 ?_
  refine lv_aload_n hx hb dX1_letterAt_38 rfl (lv_at hl 0 rfl) ?_
  refine va_get (D := D) (ci := 1) (v := .ref (q 7)) (C := RX1) (T := TX1) (N := 10) hx hb hts hin hown hK hP 0 rfl rfl 7 (by decide) (hts (.fieldLink RX1 29 "EditGraphModel" "row" "[I") (by decide +kernel)) (fun _ h9 => h9) rfl dX1_letterAt_39 ?_
  refine lv_iload_n hx hb dX1_letterAt_42 rfl (lv_at hl 2 rfl) ?_
  refine eg_iald hx hb hK hP 7 0 rfl rfl (by omega) (by decide) dX1_letterAt_43 ?_
  obtain ⟨x9, hx9⟩ := getq (L := (tx n lt tg (kn a))) (k := pp) hp
  rw [hh _ _ hx9]
  have hxn := (tx_mem (List.mem_of_getElem? hx9)).1
  refine eg_iald hx hb hK hP 2 0 rfl rfl (by omega) (by decide) dX1_letterAt_44 ?_
  refine lv_goto (tgt := 49) hx hb dX1_letterAt_45 (by decide) ?_
  exact W.iret hx hb hr (fun t9 ht9 _ => ⟨some (.int (lt x9)), (wM q cI cJ (nI n) mk lt tg pa an kn row1 (nI (tx n lt tg (kn a)).length) (nI 0)), rfl, ⟨_, _, x9, hx9, rfl, rfl⟩, rfl, by rw [ht9]; exact hP, hS.F ht9⟩) hS.2.2 dX1_letterAt_49
set_option maxHeartbeats 4000000 in
set_option maxRecDepth 100000 in
theorem c_X1_letterAt_no1 (l : Launch) (D : va_G) (cI cJ : ClassId) (q : Nat → Nat) (n : Nat) (mk lt tg : Nat → Int32) (pa an kn : Nat → Int64) (row : Nat → Int32) (len thr : Int32) (x : Int32) (y : Int32) (hbad : bad 4 x) : eg_MW D (tyL cI cJ) l yX1_letterAt wsX1_letterAt ({ frames := 3, cells := 0, slots := 0, locals := 64 }) 0 0 [.ref (q 0), .int x, .int y] (wM q cI cJ (nI n) mk lt tg pa an kn row len thr) (fun r w1 => ∃ (row' : Nat → Int32) (len' : Int32), r = some (.int (nI 0)) ∧ w1 = wM q cI cJ (nI n) mk lt tg pa an kn row' len' (nI 1)) := by
  refine Met.ofW (cc := cX1_letterAt) (maxL := 3) (ret := (some .int)) (by decide) rfl ?_
  intro p e s m args below meth c s₁ B hml hv
  obtain ⟨rfl, hP, hK, hD0⟩ := hv
  have hx := B.exec
  have hb := B.bytes
  have hr := B.returns
  have hts := atoms_spec (ws := wsX1_letterAt) B.pre
  have hown : s.vm.findClass RX1 = some m.cls := findClass_of_methodNamed B.named
  have hlocks := B.notSynchronized
  have hD := eg_D_of hD0
  have hS : va_S (eg_A (wM q cI cJ (nI n) mk lt tg pa an kn row len thr)) s.heap s.heap [] := va_S.rf
  have hin : ∀ w ∈ u_ws RX1 TX1 10, w ∈ wsX1_letterAt := by decide +kernel
  have hl := lv_entry ([.ref (q 0), .int x, .int y]) (n := 3) (Nat.le_of_ble_eq_true rfl)
  rw [lg_entry_eq]
  generalize (lg_sl ([.ref (q 0), .int x, .int y]) ++ List.replicate (3 - (lg_sl ([.ref (q 0), .int x, .int y])).length) Slot.unset).toArray = ls at hl ⊢
  have hl : lv_has ls 3 [(0, .ref (q 0)), (1, .int x), (2, .int y)] := hl
  generalize h0H : s.heap = H at hP ⊢
  have hS : va_S (eg_A (wM q cI cJ (nI n) mk lt tg pa an kn row len thr)) s.heap H [] := by rw [← h0H]; exact hS
  generalize ([] : List Loc) = locs at hS ⊢
  refine lv_aload_n hx hb dX1_letterAt_0 rfl (lv_at hl 0 rfl) ?_
  refine lv_aload_n hx hb dX1_letterAt_1 rfl (lv_at hl 0 rfl) ?_
  refine lv_iload_n hx hb dX1_letterAt_2 rfl (lv_at hl 1 rfl) ?_
  refine eg_callWV (As := [.int x]) (rest := [.ref (q 0)]) hx hb hml hown hts hK hP hD rfl hS (c_X1_looks_no l D cI cJ q n mk lt tg pa an kn row len thr x hbad) (cwV 1 hts gX1_letterAt_X1_looks rfl rfl rfl (by decide +kernel) ⟨Nat.le_of_ble_eq_true rfl, Nat.le_of_ble_eq_true rfl⟩) (va_recv hK hP (ci := 1) (q0 := 0) rfl rfl) rfl hl.1 rfl (Nat.le_of_ble_eq_true rfl) dX1_letterAt_3 ⟨Nat.zero_le _, Nat.zero_le _⟩ (fun v9 w9 H locs hR9 hw9 hP hS => ?_)
  obtain ⟨rfl, rfl⟩ := hR9
  refine eg_ifeq_b (tgt := 27) hx hb dX1_letterAt_6 (by decide) (fun _ => ?_) (fun h => Bool.noConfusion h)
  refine lv_iconst (v := nI 0) hx hb dX1_letterAt_27 (by decide +kernel) ?_
  refine eg_callWV (As := [.int (eb false)]) (rest := []) hx hb hml hown hts hK hP hD rfl hS (c_X1_asked_f l D cI cJ q n mk lt tg pa an kn row len thr  ) (cwV 1 hts gX1_letterAt_X1_asked rfl rfl rfl (by decide +kernel) ⟨Nat.le_of_ble_eq_true rfl, Nat.le_of_ble_eq_true rfl⟩) (va_recv hK hP (ci := 1) (q0 := 0) rfl rfl) rfl hl.1 rfl (Nat.le_of_ble_eq_true rfl) dX1_letterAt_28 ⟨Nat.zero_le _, Nat.zero_le _⟩ (fun v9 w9 H locs hR9 hw9 hP hS => ?_)
  obtain ⟨rfl, rfl⟩ := hR9
  refine eg_ifeq_b (tgt := 48) hx hb dX1_letterAt_31 (by decide) (fun _ => ?_) (fun h => Bool.noConfusion h)
  refine lv_iconst (v := nI 0) hx hb dX1_letterAt_48 (by decide +kernel) ?_
  exact W.iret hx hb hr (fun t9 ht9 _ => ⟨some (.int (nI 0)), (wM q cI cJ (nI n) mk lt tg pa an kn row len (nI 1)), rfl, ⟨_, _, rfl, rfl⟩, rfl, by rw [ht9]; exact hP, hS.F ht9⟩) hS.2.2 dX1_letterAt_49
set_option maxHeartbeats 4000000 in
set_option maxRecDepth 100000 in
theorem c_X1_letterAt_no2 (l : Launch) (D : va_G) (cI cJ : ClassId) (q : Nat → Nat) (n : Nat) (mk lt tg : Nat → Int32) (pa an kn : Nat → Int64) (row : Nat → Int32) (len thr : Int32) (a : Nat) (y : Int32) (hI : Inv n lt tg an kn) (ha : a < 4) (hbad : bad (tx n lt tg (kn a)).length y) : eg_MW D (tyL cI cJ) l yX1_letterAt wsX1_letterAt ({ frames := 3, cells := 0, slots := 0, locals := 70 }) 0 0 [.ref (q 0), .int (nI a), .int y] (wM q cI cJ (nI n) mk lt tg pa an kn row len thr) (fun r w1 => ∃ (row' : Nat → Int32) (len' : Int32), r = some (.int (nI 0)) ∧ w1 = wM q cI cJ (nI n) mk lt tg pa an kn row' len' (nI 1)) := by
  refine Met.ofW (cc := cX1_letterAt) (maxL := 3) (ret := (some .int)) (by decide) rfl ?_
  intro p e s m args below meth c s₁ B hml hv
  obtain ⟨rfl, hP, hK, hD0⟩ := hv
  have hx := B.exec
  have hb := B.bytes
  have hr := B.returns
  have hts := atoms_spec (ws := wsX1_letterAt) B.pre
  have hown : s.vm.findClass RX1 = some m.cls := findClass_of_methodNamed B.named
  have hlocks := B.notSynchronized
  have hD := eg_D_of hD0
  have hS : va_S (eg_A (wM q cI cJ (nI n) mk lt tg pa an kn row len thr)) s.heap s.heap [] := va_S.rf
  have hin : ∀ w ∈ u_ws RX1 TX1 10, w ∈ wsX1_letterAt := by decide +kernel
  have hl := lv_entry ([.ref (q 0), .int (nI a), .int y]) (n := 3) (Nat.le_of_ble_eq_true rfl)
  rw [lg_entry_eq]
  generalize (lg_sl ([.ref (q 0), .int (nI a), .int y]) ++ List.replicate (3 - (lg_sl ([.ref (q 0), .int (nI a), .int y])).length) Slot.unset).toArray = ls at hl ⊢
  have hl : lv_has ls 3 [(0, .ref (q 0)), (1, .int (nI a)), (2, .int y)] := hl
  generalize h0H : s.heap = H at hP ⊢
  have hS : va_S (eg_A (wM q cI cJ (nI n) mk lt tg pa an kn row len thr)) s.heap H [] := by rw [← h0H]; exact hS
  generalize ([] : List Loc) = locs at hS ⊢
  refine lv_aload_n hx hb dX1_letterAt_0 rfl (lv_at hl 0 rfl) ?_
  refine lv_aload_n hx hb dX1_letterAt_1 rfl (lv_at hl 0 rfl) ?_
  refine lv_iload_n hx hb dX1_letterAt_2 rfl (lv_at hl 1 rfl) ?_
  refine eg_callWV (As := [.int (nI a)]) (rest := [.ref (q 0)]) hx hb hml hown hts hK hP hD rfl hS (c_X1_looks l D cI cJ q n mk lt tg pa an kn row len thr a hI ha) (cwV 1 hts gX1_letterAt_X1_looks rfl rfl rfl (by decide +kernel) ⟨Nat.le_of_ble_eq_true rfl, Nat.le_of_ble_eq_true rfl⟩) (va_recv hK hP (ci := 1) (q0 := 0) rfl rfl) rfl hl.1 rfl (Nat.le_of_ble_eq_true rfl) dX1_letterAt_3 ⟨Nat.zero_le _, Nat.zero_le _⟩ (fun v9 w9 H locs hR9 hw9 hP hS => ?_)
  obtain ⟨row1, rfl, rfl, hh⟩ := hR9
  have hT9 := tx_len hI (hI.vk ha)
  have hI1 := hI.1
  refine eg_ifeq_b (tgt := 27) hx hb dX1_letterAt_6 (by decide) (fun h => Bool.noConfusion h) (fun _ => ?_)
  refine lv_iload_n hx hb dX1_letterAt_9 rfl (lv_at hl 2 rfl) ?_
  refine lv_iconst (v := nI 0) hx hb dX1_letterAt_10 (by decide +kernel) ?_
  refine lv_aload_n hx hb dX1_letterAt_11 rfl (lv_at hl 0 rfl) ?_
  refine va_get (D := D) (ci := 1) (v := .int (nI ((tx n lt tg (kn a)).length))) (C := RX1) (T := TX1) (N := 10) hx hb hts hin hown hK hP 0 rfl rfl 8 (by decide) (hts (.fieldLink RX1 49 "EditGraphModel" "length" "I") (by decide +kernel)) (fun _ h9 => h9) rfl dX1_letterAt_12 ?_
  refine lv_iconst (v := nI 1) hx hb dX1_letterAt_15 (by decide +kernel) ?_
  refine lv_isub hx hb dX1_letterAt_16 ?_
  refine eg_callS (As := [.int y, .int (nI 0), .int ((nI ((tx n lt tg (kn a)).length)) - (nI 1))]) (rest := [.ref (q 0)]) hx hb hml hown hts hK (c_X1_in l D cI cJ y (nI 0) ((nI ((tx n lt tg (kn a)).length)) - (nI 1)) ) (va_cwS 3 hts gX1_letterAt_X1_in rfl rfl rfl (by decide +kernel) ⟨Nat.le_of_ble_eq_true rfl, Nat.le_of_ble_eq_true rfl⟩) rfl hl.1 rfl (Nat.le_of_ble_eq_true rfl) dX1_letterAt_17 ⟨Nat.zero_le _, Nat.zero_le _⟩ ?_
  rw [inr_sub (L := ((tx n lt tg (kn a)).length)) _ (by omega)]
  rw [show ev ((tx n lt tg (kn a)).length) y = false from bad_ev hbad]
  refine eg_ifeq_b (tgt := 27) hx hb dX1_letterAt_20 (by decide) (fun _ => ?_) (fun h => Bool.noConfusion h)
  refine lv_iconst (v := nI 0) hx hb dX1_letterAt_27 (by decide +kernel) ?_
  refine eg_callWV (As := [.int (eb false)]) (rest := []) hx hb hml hown hts hK hP hD rfl hS (c_X1_asked_f l D cI cJ q n mk lt tg pa an kn row1 (nI (tx n lt tg (kn a)).length) thr  ) (cwV 1 hts gX1_letterAt_X1_asked rfl rfl rfl (by decide +kernel) ⟨Nat.le_of_ble_eq_true rfl, Nat.le_of_ble_eq_true rfl⟩) (va_recv hK hP (ci := 1) (q0 := 0) rfl rfl) rfl hl.1 rfl (Nat.le_of_ble_eq_true rfl) dX1_letterAt_28 ⟨Nat.zero_le _, Nat.zero_le _⟩ (fun v9 w9 H locs hR9 hw9 hP hS => ?_)
  obtain ⟨rfl, rfl⟩ := hR9
  refine eg_ifeq_b (tgt := 48) hx hb dX1_letterAt_31 (by decide) (fun _ => ?_) (fun h => Bool.noConfusion h)
  refine lv_iconst (v := nI 0) hx hb dX1_letterAt_48 (by decide +kernel) ?_
  exact W.iret hx hb hr (fun t9 ht9 _ => ⟨some (.int (nI 0)), (wM q cI cJ (nI n) mk lt tg pa an kn row1 (nI (tx n lt tg (kn a)).length) (nI 1)), rfl, ⟨_, _, rfl, rfl⟩, rfl, by rw [ht9]; exact hP, hS.F ht9⟩) hS.2.2 dX1_letterAt_49
set_option maxHeartbeats 4000000 in
set_option maxRecDepth 100000 in
theorem c_X1_eventAt (l : Launch) (D : va_G) (cI cJ : ClassId) (q : Nat → Nat) (n : Nat) (mk lt tg : Nat → Int32) (pa an kn : Nat → Int64) (row : Nat → Int32) (len thr : Int32) (a : Nat) (pp : Nat) (hI : Inv n lt tg an kn) (ha : a < 4) (hp : pp < (tx n lt tg (kn a)).length) : eg_MW D (tyL cI cJ) l yX1_eventAt wsX1_eventAt ({ frames := 3, cells := 0, slots := 0, locals := 70 }) 0 0 [.ref (q 0), .int (nI a), .int (nI pp)] (wM q cI cJ (nI n) mk lt tg pa an kn row len thr) (fun r w1 => ∃ (row' : Nat → Int32) (len' : Int32) (x : Nat), (tx n lt tg (kn a))[pp]? = some x ∧ r = some (.int (nI x)) ∧ w1 = wM q cI cJ (nI n) mk lt tg pa an kn row' len' (nI 0)) := by
  refine Met.ofW (cc := cX1_eventAt) (maxL := 3) (ret := (some .int)) (by decide) rfl ?_
  intro p e s m args below meth c s₁ B hml hv
  obtain ⟨rfl, hP, hK, hD0⟩ := hv
  have hx := B.exec
  have hb := B.bytes
  have hr := B.returns
  have hts := atoms_spec (ws := wsX1_eventAt) B.pre
  have hown : s.vm.findClass RX1 = some m.cls := findClass_of_methodNamed B.named
  have hlocks := B.notSynchronized
  have hD := eg_D_of hD0
  have hS : va_S (eg_A (wM q cI cJ (nI n) mk lt tg pa an kn row len thr)) s.heap s.heap [] := va_S.rf
  have hin : ∀ w ∈ u_ws RX1 TX1 10, w ∈ wsX1_eventAt := by decide +kernel
  have hl := lv_entry ([.ref (q 0), .int (nI a), .int (nI pp)]) (n := 3) (Nat.le_of_ble_eq_true rfl)
  rw [lg_entry_eq]
  generalize (lg_sl ([.ref (q 0), .int (nI a), .int (nI pp)]) ++ List.replicate (3 - (lg_sl ([.ref (q 0), .int (nI a), .int (nI pp)])).length) Slot.unset).toArray = ls at hl ⊢
  have hl : lv_has ls 3 [(0, .ref (q 0)), (1, .int (nI a)), (2, .int (nI pp))] := hl
  generalize h0H : s.heap = H at hP ⊢
  have hS : va_S (eg_A (wM q cI cJ (nI n) mk lt tg pa an kn row len thr)) s.heap H [] := by rw [← h0H]; exact hS
  generalize ([] : List Loc) = locs at hS ⊢
  refine lv_aload_n hx hb dX1_eventAt_0 rfl (lv_at hl 0 rfl) ?_
  refine lv_aload_n hx hb dX1_eventAt_1 rfl (lv_at hl 0 rfl) ?_
  refine lv_iload_n hx hb dX1_eventAt_2 rfl (lv_at hl 1 rfl) ?_
  refine eg_callWV (As := [.int (nI a)]) (rest := [.ref (q 0)]) hx hb hml hown hts hK hP hD rfl hS (c_X1_looks l D cI cJ q n mk lt tg pa an kn row len thr a hI ha) (cwV 1 hts gX1_eventAt_X1_looks rfl rfl rfl (by decide +kernel) ⟨Nat.le_of_ble_eq_true rfl, Nat.le_of_ble_eq_true rfl⟩) (va_recv hK hP (ci := 1) (q0 := 0) rfl rfl) rfl hl.1 rfl (Nat.le_of_ble_eq_true rfl) dX1_eventAt_3 ⟨Nat.zero_le _, Nat.zero_le _⟩ (fun v9 w9 H locs hR9 hw9 hP hS => ?_)
  obtain ⟨row1, rfl, rfl, hh⟩ := hR9
  have hT9 := tx_len hI (hI.vk ha)
  have hI1 := hI.1
  refine eg_ifeq_b (tgt := 27) hx hb dX1_eventAt_6 (by decide) (fun h => Bool.noConfusion h) (fun _ => ?_)
  refine lv_iload_n hx hb dX1_eventAt_9 rfl (lv_at hl 2 rfl) ?_
  refine lv_iconst (v := nI 0) hx hb dX1_eventAt_10 (by decide +kernel) ?_
  refine lv_aload_n hx hb dX1_eventAt_11 rfl (lv_at hl 0 rfl) ?_
  refine va_get (D := D) (ci := 1) (v := .int (nI ((tx n lt tg (kn a)).length))) (C := RX1) (T := TX1) (N := 10) hx hb hts hin hown hK hP 0 rfl rfl 8 (by decide) (hts (.fieldLink RX1 49 "EditGraphModel" "length" "I") (by decide +kernel)) (fun _ h9 => h9) rfl dX1_eventAt_12 ?_
  refine lv_iconst (v := nI 1) hx hb dX1_eventAt_15 (by decide +kernel) ?_
  refine lv_isub hx hb dX1_eventAt_16 ?_
  refine eg_callS (As := [.int (nI pp), .int (nI 0), .int ((nI ((tx n lt tg (kn a)).length)) - (nI 1))]) (rest := [.ref (q 0)]) hx hb hml hown hts hK (c_X1_in l D cI cJ (nI pp) (nI 0) ((nI ((tx n lt tg (kn a)).length)) - (nI 1)) ) (va_cwS 3 hts gX1_eventAt_X1_in rfl rfl rfl (by decide +kernel) ⟨Nat.le_of_ble_eq_true rfl, Nat.le_of_ble_eq_true rfl⟩) rfl hl.1 rfl (Nat.le_of_ble_eq_true rfl) dX1_eventAt_17 ⟨Nat.zero_le _, Nat.zero_le _⟩ ?_
  rw [inr_sub (L := ((tx n lt tg (kn a)).length)) _ (by omega)]
  rw [show ev ((tx n lt tg (kn a)).length) (nI pp) = true from ev_nI (by omega) (by omega)]
  refine eg_ifeq_b (tgt := 27) hx hb dX1_eventAt_20 (by decide) (fun h => Bool.noConfusion h) (fun _ => ?_)
  refine lv_iconst (v := nI 1) hx hb dX1_eventAt_23 (by decide +kernel) ?_
  refine lv_goto (tgt := 28) hx hb dX1_eventAt_24 (by decide) ?_
  refine eg_callWV (As := [.int (eb true)]) (rest := []) hx hb hml hown hts hK hP hD rfl hS (c_X1_asked_t l D cI cJ q n mk lt tg pa an kn row1 (nI (tx n lt tg (kn a)).length) thr  ) (cwV 1 hts gX1_eventAt_X1_asked rfl rfl rfl (by decide +kernel) ⟨Nat.le_of_ble_eq_true rfl, Nat.le_of_ble_eq_true rfl⟩) (va_recv hK hP (ci := 1) (q0 := 0) rfl rfl) rfl hl.1 rfl (Nat.le_of_ble_eq_true rfl) dX1_eventAt_28 ⟨Nat.zero_le _, Nat.zero_le _⟩ (fun v9 w9 H locs hR9 hw9 hP hS => ?_)
  obtain ⟨rfl, rfl⟩ := hR9
  refine eg_ifeq_b (tgt := 43) hx hb dX1_eventAt_31 (by decide) (fun h => Bool.noConfusion h) (fun _ => ?_)
  refine lv_aload_n hx hb dX1_eventAt_34 rfl (lv_at hl 0 rfl) ?_
  refine va_get (D := D) (ci := 1) (v := .ref (q 7)) (C := RX1) (T := TX1) (N := 10) hx hb hts hin hown hK hP 0 rfl rfl 7 (by decide) (hts (.fieldLink RX1 29 "EditGraphModel" "row" "[I") (by decide +kernel)) (fun _ h9 => h9) rfl dX1_eventAt_35 ?_
  refine lv_iload_n hx hb dX1_eventAt_38 rfl (lv_at hl 2 rfl) ?_
  refine eg_iald hx hb hK hP 7 0 rfl rfl (by omega) (by decide) dX1_eventAt_39 ?_
  obtain ⟨x9, hx9⟩ := getq (L := (tx n lt tg (kn a))) (k := pp) hp
  rw [hh _ _ hx9]
  have hxn := (tx_mem (List.mem_of_getElem? hx9)).1
  refine lv_goto (tgt := 44) hx hb dX1_eventAt_40 (by decide) ?_
  exact W.iret hx hb hr (fun t9 ht9 _ => ⟨some (.int (nI x9)), (wM q cI cJ (nI n) mk lt tg pa an kn row1 (nI (tx n lt tg (kn a)).length) (nI 0)), rfl, ⟨_, _, x9, hx9, rfl, rfl⟩, rfl, by rw [ht9]; exact hP, hS.F ht9⟩) hS.2.2 dX1_eventAt_44
set_option maxHeartbeats 4000000 in
set_option maxRecDepth 100000 in
theorem c_X1_eventAt_no1 (l : Launch) (D : va_G) (cI cJ : ClassId) (q : Nat → Nat) (n : Nat) (mk lt tg : Nat → Int32) (pa an kn : Nat → Int64) (row : Nat → Int32) (len thr : Int32) (x : Int32) (y : Int32) (hbad : bad 4 x) : eg_MW D (tyL cI cJ) l yX1_eventAt wsX1_eventAt ({ frames := 3, cells := 0, slots := 0, locals := 64 }) 0 0 [.ref (q 0), .int x, .int y] (wM q cI cJ (nI n) mk lt tg pa an kn row len thr) (fun r w1 => ∃ (row' : Nat → Int32) (len' : Int32), r = some (.int (nI 0)) ∧ w1 = wM q cI cJ (nI n) mk lt tg pa an kn row' len' (nI 1)) := by
  refine Met.ofW (cc := cX1_eventAt) (maxL := 3) (ret := (some .int)) (by decide) rfl ?_
  intro p e s m args below meth c s₁ B hml hv
  obtain ⟨rfl, hP, hK, hD0⟩ := hv
  have hx := B.exec
  have hb := B.bytes
  have hr := B.returns
  have hts := atoms_spec (ws := wsX1_eventAt) B.pre
  have hown : s.vm.findClass RX1 = some m.cls := findClass_of_methodNamed B.named
  have hlocks := B.notSynchronized
  have hD := eg_D_of hD0
  have hS : va_S (eg_A (wM q cI cJ (nI n) mk lt tg pa an kn row len thr)) s.heap s.heap [] := va_S.rf
  have hin : ∀ w ∈ u_ws RX1 TX1 10, w ∈ wsX1_eventAt := by decide +kernel
  have hl := lv_entry ([.ref (q 0), .int x, .int y]) (n := 3) (Nat.le_of_ble_eq_true rfl)
  rw [lg_entry_eq]
  generalize (lg_sl ([.ref (q 0), .int x, .int y]) ++ List.replicate (3 - (lg_sl ([.ref (q 0), .int x, .int y])).length) Slot.unset).toArray = ls at hl ⊢
  have hl : lv_has ls 3 [(0, .ref (q 0)), (1, .int x), (2, .int y)] := hl
  generalize h0H : s.heap = H at hP ⊢
  have hS : va_S (eg_A (wM q cI cJ (nI n) mk lt tg pa an kn row len thr)) s.heap H [] := by rw [← h0H]; exact hS
  generalize ([] : List Loc) = locs at hS ⊢
  refine lv_aload_n hx hb dX1_eventAt_0 rfl (lv_at hl 0 rfl) ?_
  refine lv_aload_n hx hb dX1_eventAt_1 rfl (lv_at hl 0 rfl) ?_
  refine lv_iload_n hx hb dX1_eventAt_2 rfl (lv_at hl 1 rfl) ?_
  refine eg_callWV (As := [.int x]) (rest := [.ref (q 0)]) hx hb hml hown hts hK hP hD rfl hS (c_X1_looks_no l D cI cJ q n mk lt tg pa an kn row len thr x hbad) (cwV 1 hts gX1_eventAt_X1_looks rfl rfl rfl (by decide +kernel) ⟨Nat.le_of_ble_eq_true rfl, Nat.le_of_ble_eq_true rfl⟩) (va_recv hK hP (ci := 1) (q0 := 0) rfl rfl) rfl hl.1 rfl (Nat.le_of_ble_eq_true rfl) dX1_eventAt_3 ⟨Nat.zero_le _, Nat.zero_le _⟩ (fun v9 w9 H locs hR9 hw9 hP hS => ?_)
  obtain ⟨rfl, rfl⟩ := hR9
  refine eg_ifeq_b (tgt := 27) hx hb dX1_eventAt_6 (by decide) (fun _ => ?_) (fun h => Bool.noConfusion h)
  refine lv_iconst (v := nI 0) hx hb dX1_eventAt_27 (by decide +kernel) ?_
  refine eg_callWV (As := [.int (eb false)]) (rest := []) hx hb hml hown hts hK hP hD rfl hS (c_X1_asked_f l D cI cJ q n mk lt tg pa an kn row len thr  ) (cwV 1 hts gX1_eventAt_X1_asked rfl rfl rfl (by decide +kernel) ⟨Nat.le_of_ble_eq_true rfl, Nat.le_of_ble_eq_true rfl⟩) (va_recv hK hP (ci := 1) (q0 := 0) rfl rfl) rfl hl.1 rfl (Nat.le_of_ble_eq_true rfl) dX1_eventAt_28 ⟨Nat.zero_le _, Nat.zero_le _⟩ (fun v9 w9 H locs hR9 hw9 hP hS => ?_)
  obtain ⟨rfl, rfl⟩ := hR9
  refine eg_ifeq_b (tgt := 43) hx hb dX1_eventAt_31 (by decide) (fun _ => ?_) (fun h => Bool.noConfusion h)
  refine lv_iconst (v := nI 0) hx hb dX1_eventAt_43 (by decide +kernel) ?_
  exact W.iret hx hb hr (fun t9 ht9 _ => ⟨some (.int (nI 0)), (wM q cI cJ (nI n) mk lt tg pa an kn row len (nI 1)), rfl, ⟨_, _, rfl, rfl⟩, rfl, by rw [ht9]; exact hP, hS.F ht9⟩) hS.2.2 dX1_eventAt_44
set_option maxHeartbeats 4000000 in
set_option maxRecDepth 100000 in
theorem c_X1_eventAt_no2 (l : Launch) (D : va_G) (cI cJ : ClassId) (q : Nat → Nat) (n : Nat) (mk lt tg : Nat → Int32) (pa an kn : Nat → Int64) (row : Nat → Int32) (len thr : Int32) (a : Nat) (y : Int32) (hI : Inv n lt tg an kn) (ha : a < 4) (hbad : bad (tx n lt tg (kn a)).length y) : eg_MW D (tyL cI cJ) l yX1_eventAt wsX1_eventAt ({ frames := 3, cells := 0, slots := 0, locals := 70 }) 0 0 [.ref (q 0), .int (nI a), .int y] (wM q cI cJ (nI n) mk lt tg pa an kn row len thr) (fun r w1 => ∃ (row' : Nat → Int32) (len' : Int32), r = some (.int (nI 0)) ∧ w1 = wM q cI cJ (nI n) mk lt tg pa an kn row' len' (nI 1)) := by
  refine Met.ofW (cc := cX1_eventAt) (maxL := 3) (ret := (some .int)) (by decide) rfl ?_
  intro p e s m args below meth c s₁ B hml hv
  obtain ⟨rfl, hP, hK, hD0⟩ := hv
  have hx := B.exec
  have hb := B.bytes
  have hr := B.returns
  have hts := atoms_spec (ws := wsX1_eventAt) B.pre
  have hown : s.vm.findClass RX1 = some m.cls := findClass_of_methodNamed B.named
  have hlocks := B.notSynchronized
  have hD := eg_D_of hD0
  have hS : va_S (eg_A (wM q cI cJ (nI n) mk lt tg pa an kn row len thr)) s.heap s.heap [] := va_S.rf
  have hin : ∀ w ∈ u_ws RX1 TX1 10, w ∈ wsX1_eventAt := by decide +kernel
  have hl := lv_entry ([.ref (q 0), .int (nI a), .int y]) (n := 3) (Nat.le_of_ble_eq_true rfl)
  rw [lg_entry_eq]
  generalize (lg_sl ([.ref (q 0), .int (nI a), .int y]) ++ List.replicate (3 - (lg_sl ([.ref (q 0), .int (nI a), .int y])).length) Slot.unset).toArray = ls at hl ⊢
  have hl : lv_has ls 3 [(0, .ref (q 0)), (1, .int (nI a)), (2, .int y)] := hl
  generalize h0H : s.heap = H at hP ⊢
  have hS : va_S (eg_A (wM q cI cJ (nI n) mk lt tg pa an kn row len thr)) s.heap H [] := by rw [← h0H]; exact hS
  generalize ([] : List Loc) = locs at hS ⊢
  refine lv_aload_n hx hb dX1_eventAt_0 rfl (lv_at hl 0 rfl) ?_
  refine lv_aload_n hx hb dX1_eventAt_1 rfl (lv_at hl 0 rfl) ?_
  refine lv_iload_n hx hb dX1_eventAt_2 rfl (lv_at hl 1 rfl) ?_
  refine eg_callWV (As := [.int (nI a)]) (rest := [.ref (q 0)]) hx hb hml hown hts hK hP hD rfl hS (c_X1_looks l D cI cJ q n mk lt tg pa an kn row len thr a hI ha) (cwV 1 hts gX1_eventAt_X1_looks rfl rfl rfl (by decide +kernel) ⟨Nat.le_of_ble_eq_true rfl, Nat.le_of_ble_eq_true rfl⟩) (va_recv hK hP (ci := 1) (q0 := 0) rfl rfl) rfl hl.1 rfl (Nat.le_of_ble_eq_true rfl) dX1_eventAt_3 ⟨Nat.zero_le _, Nat.zero_le _⟩ (fun v9 w9 H locs hR9 hw9 hP hS => ?_)
  obtain ⟨row1, rfl, rfl, hh⟩ := hR9
  have hT9 := tx_len hI (hI.vk ha)
  have hI1 := hI.1
  refine eg_ifeq_b (tgt := 27) hx hb dX1_eventAt_6 (by decide) (fun h => Bool.noConfusion h) (fun _ => ?_)
  refine lv_iload_n hx hb dX1_eventAt_9 rfl (lv_at hl 2 rfl) ?_
  refine lv_iconst (v := nI 0) hx hb dX1_eventAt_10 (by decide +kernel) ?_
  refine lv_aload_n hx hb dX1_eventAt_11 rfl (lv_at hl 0 rfl) ?_
  refine va_get (D := D) (ci := 1) (v := .int (nI ((tx n lt tg (kn a)).length))) (C := RX1) (T := TX1) (N := 10) hx hb hts hin hown hK hP 0 rfl rfl 8 (by decide) (hts (.fieldLink RX1 49 "EditGraphModel" "length" "I") (by decide +kernel)) (fun _ h9 => h9) rfl dX1_eventAt_12 ?_
  refine lv_iconst (v := nI 1) hx hb dX1_eventAt_15 (by decide +kernel) ?_
  refine lv_isub hx hb dX1_eventAt_16 ?_
  refine eg_callS (As := [.int y, .int (nI 0), .int ((nI ((tx n lt tg (kn a)).length)) - (nI 1))]) (rest := [.ref (q 0)]) hx hb hml hown hts hK (c_X1_in l D cI cJ y (nI 0) ((nI ((tx n lt tg (kn a)).length)) - (nI 1)) ) (va_cwS 3 hts gX1_eventAt_X1_in rfl rfl rfl (by decide +kernel) ⟨Nat.le_of_ble_eq_true rfl, Nat.le_of_ble_eq_true rfl⟩) rfl hl.1 rfl (Nat.le_of_ble_eq_true rfl) dX1_eventAt_17 ⟨Nat.zero_le _, Nat.zero_le _⟩ ?_
  rw [inr_sub (L := ((tx n lt tg (kn a)).length)) _ (by omega)]
  rw [show ev ((tx n lt tg (kn a)).length) y = false from bad_ev hbad]
  refine eg_ifeq_b (tgt := 27) hx hb dX1_eventAt_20 (by decide) (fun _ => ?_) (fun h => Bool.noConfusion h)
  refine lv_iconst (v := nI 0) hx hb dX1_eventAt_27 (by decide +kernel) ?_
  refine eg_callWV (As := [.int (eb false)]) (rest := []) hx hb hml hown hts hK hP hD rfl hS (c_X1_asked_f l D cI cJ q n mk lt tg pa an kn row1 (nI (tx n lt tg (kn a)).length) thr  ) (cwV 1 hts gX1_eventAt_X1_asked rfl rfl rfl (by decide +kernel) ⟨Nat.le_of_ble_eq_true rfl, Nat.le_of_ble_eq_true rfl⟩) (va_recv hK hP (ci := 1) (q0 := 0) rfl rfl) rfl hl.1 rfl (Nat.le_of_ble_eq_true rfl) dX1_eventAt_28 ⟨Nat.zero_le _, Nat.zero_le _⟩ (fun v9 w9 H locs hR9 hw9 hP hS => ?_)
  obtain ⟨rfl, rfl⟩ := hR9
  refine eg_ifeq_b (tgt := 43) hx hb dX1_eventAt_31 (by decide) (fun _ => ?_) (fun h => Bool.noConfusion h)
  refine lv_iconst (v := nI 0) hx hb dX1_eventAt_43 (by decide +kernel) ?_
  exact W.iret hx hb hr (fun t9 ht9 _ => ⟨some (.int (nI 0)), (wM q cI cJ (nI n) mk lt tg pa an kn row1 (nI (tx n lt tg (kn a)).length) (nI 1)), rfl, ⟨_, _, rfl, rfl⟩, rfl, by rw [ht9]; exact hP, hS.F ht9⟩) hS.2.2 dX1_eventAt_44
set_option maxHeartbeats 4000000 in
set_option maxRecDepth 100000 in
theorem c_X1_letterOf (l : Launch) (D : va_G) (cI cJ : ClassId) (q : Nat → Nat) (n : Nat) (mk lt tg : Nat → Int32) (pa an kn : Nat → Int64) (row : Nat → Int32) (len thr : Int32) (e0 : Nat) (pp : Nat) (hI : Inv n lt tg an kn) (he : e0 < n) (hp : pp < (tx n lt tg (an e0 ||| ol e0)).length) : eg_MW D (tyL cI cJ) l yX1_letterOf wsX1_letterOf ({ frames := 3, cells := 0, slots := 0, locals := 70 }) 0 0 [.ref (q 0), .int (nI e0), .int (nI pp)] (wM q cI cJ (nI n) mk lt tg pa an kn row len thr) (fun r w1 => ∃ (row' : Nat → Int32) (len' : Int32) (x : Nat), (tx n lt tg (an e0 ||| ol e0))[pp]? = some x ∧ r = some (.int (lt x)) ∧ w1 = wM q cI cJ (nI n) mk lt tg pa an kn row' len' (nI 0)) := by
  refine Met.ofW (cc := cX1_letterOf) (maxL := 3) (ret := (some .int)) (by decide) rfl ?_
  intro p e s m args below meth c s₁ B hml hv
  obtain ⟨rfl, hP, hK, hD0⟩ := hv
  have hx := B.exec
  have hb := B.bytes
  have hr := B.returns
  have hts := atoms_spec (ws := wsX1_letterOf) B.pre
  have hown : s.vm.findClass RX1 = some m.cls := findClass_of_methodNamed B.named
  have hlocks := B.notSynchronized
  have hD := eg_D_of hD0
  have hS : va_S (eg_A (wM q cI cJ (nI n) mk lt tg pa an kn row len thr)) s.heap s.heap [] := va_S.rf
  have hin : ∀ w ∈ u_ws RX1 TX1 10, w ∈ wsX1_letterOf := by decide +kernel
  have hl := lv_entry ([.ref (q 0), .int (nI e0), .int (nI pp)]) (n := 3) (Nat.le_of_ble_eq_true rfl)
  rw [lg_entry_eq]
  generalize (lg_sl ([.ref (q 0), .int (nI e0), .int (nI pp)]) ++ List.replicate (3 - (lg_sl ([.ref (q 0), .int (nI e0), .int (nI pp)])).length) Slot.unset).toArray = ls at hl ⊢
  have hl : lv_has ls 3 [(0, .ref (q 0)), (1, .int (nI e0)), (2, .int (nI pp))] := hl
  generalize h0H : s.heap = H at hP ⊢
  have hS : va_S (eg_A (wM q cI cJ (nI n) mk lt tg pa an kn row len thr)) s.heap H [] := by rw [← h0H]; exact hS
  generalize ([] : List Loc) = locs at hS ⊢
  refine lv_aload_n hx hb dX1_letterOf_0 rfl (lv_at hl 0 rfl) ?_
  refine lv_aload_n hx hb dX1_letterOf_1 rfl (lv_at hl 0 rfl) ?_
  refine lv_iload_n hx hb dX1_letterOf_2 rfl (lv_at hl 1 rfl) ?_
  refine eg_callWV (As := [.int (nI e0)]) (rest := [.ref (q 0)]) hx hb hml hown hts hK hP hD rfl hS (c_X1_looksAt l D cI cJ q n mk lt tg pa an kn row len thr e0 hI he) (cwV 1 hts gX1_letterOf_X1_looksAt rfl rfl rfl (by decide +kernel) ⟨Nat.le_of_ble_eq_true rfl, Nat.le_of_ble_eq_true rfl⟩) (va_recv hK hP (ci := 1) (q0 := 0) rfl rfl) rfl hl.1 rfl (Nat.le_of_ble_eq_true rfl) dX1_letterOf_3 ⟨Nat.zero_le _, Nat.zero_le _⟩ (fun v9 w9 H locs hR9 hw9 hP hS => ?_)
  obtain ⟨row1, rfl, rfl, hh⟩ := hR9
  have hT9 := tx_len hI (hI.ve he)
  have hI1 := hI.1
  refine eg_ifeq_b (tgt := 27) hx hb dX1_letterOf_6 (by decide) (fun h => Bool.noConfusion h) (fun _ => ?_)
  refine lv_iload_n hx hb dX1_letterOf_9 rfl (lv_at hl 2 rfl) ?_
  refine lv_iconst (v := nI 0) hx hb dX1_letterOf_10 (by decide +kernel) ?_
  refine lv_aload_n hx hb dX1_letterOf_11 rfl (lv_at hl 0 rfl) ?_
  refine va_get (D := D) (ci := 1) (v := .int (nI ((tx n lt tg (an e0 ||| ol e0)).length))) (C := RX1) (T := TX1) (N := 10) hx hb hts hin hown hK hP 0 rfl rfl 8 (by decide) (hts (.fieldLink RX1 49 "EditGraphModel" "length" "I") (by decide +kernel)) (fun _ h9 => h9) rfl dX1_letterOf_12 ?_
  refine lv_iconst (v := nI 1) hx hb dX1_letterOf_15 (by decide +kernel) ?_
  refine lv_isub hx hb dX1_letterOf_16 ?_
  refine eg_callS (As := [.int (nI pp), .int (nI 0), .int ((nI ((tx n lt tg (an e0 ||| ol e0)).length)) - (nI 1))]) (rest := [.ref (q 0)]) hx hb hml hown hts hK (c_X1_in l D cI cJ (nI pp) (nI 0) ((nI ((tx n lt tg (an e0 ||| ol e0)).length)) - (nI 1)) ) (va_cwS 3 hts gX1_letterOf_X1_in rfl rfl rfl (by decide +kernel) ⟨Nat.le_of_ble_eq_true rfl, Nat.le_of_ble_eq_true rfl⟩) rfl hl.1 rfl (Nat.le_of_ble_eq_true rfl) dX1_letterOf_17 ⟨Nat.zero_le _, Nat.zero_le _⟩ ?_
  rw [inr_sub (L := ((tx n lt tg (an e0 ||| ol e0)).length)) _ (by omega)]
  rw [show ev ((tx n lt tg (an e0 ||| ol e0)).length) (nI pp) = true from ev_nI (by omega) (by omega)]
  refine eg_ifeq_b (tgt := 27) hx hb dX1_letterOf_20 (by decide) (fun h => Bool.noConfusion h) (fun _ => ?_)
  refine lv_iconst (v := nI 1) hx hb dX1_letterOf_23 (by decide +kernel) ?_
  refine lv_goto (tgt := 28) hx hb dX1_letterOf_24 (by decide) ?_
  refine eg_callWV (As := [.int (eb true)]) (rest := []) hx hb hml hown hts hK hP hD rfl hS (c_X1_asked_t l D cI cJ q n mk lt tg pa an kn row1 (nI (tx n lt tg (an e0 ||| ol e0)).length) thr  ) (cwV 1 hts gX1_letterOf_X1_asked rfl rfl rfl (by decide +kernel) ⟨Nat.le_of_ble_eq_true rfl, Nat.le_of_ble_eq_true rfl⟩) (va_recv hK hP (ci := 1) (q0 := 0) rfl rfl) rfl hl.1 rfl (Nat.le_of_ble_eq_true rfl) dX1_letterOf_28 ⟨Nat.zero_le _, Nat.zero_le _⟩ (fun v9 w9 H locs hR9 hw9 hP hS => ?_)
  obtain ⟨rfl, rfl⟩ := hR9
  refine eg_ifeq_b (tgt := 48) hx hb dX1_letterOf_31 (by decide) (fun h => Bool.noConfusion h) (fun _ => ?_)
  refine lv_aload_n hx hb dX1_letterOf_34 rfl (lv_at hl 0 rfl) ?_
  refine va_get (D := D) (ci := 1) (v := .ref (q 2)) (C := RX1) (T := TX1) (N := 10) hx hb hts hin hown hK hP 0 rfl rfl 1 (by decide) (hts (.fieldLink RX1 13 "EditGraphModel" "letter" "[I") (by decide +kernel)) (fun _ h9 => h9) rfl dX1_letterOf_35 ?_
  refine lv_aload_n hx hb dX1_letterOf_38 rfl (lv_at hl 0 rfl) ?_
  refine va_get (D := D) (ci := 1) (v := .ref (q 7)) (C := RX1) (T := TX1) (N := 10) hx hb hts hin hown hK hP 0 rfl rfl 7 (by decide) (hts (.fieldLink RX1 29 "EditGraphModel" "row" "[I") (by decide +kernel)) (fun _ h9 => h9) rfl dX1_letterOf_39 ?_
  refine lv_iload_n hx hb dX1_letterOf_42 rfl (lv_at hl 2 rfl) ?_
  refine eg_iald hx hb hK hP 7 0 rfl rfl (by omega) (by decide) dX1_letterOf_43 ?_
  obtain ⟨x9, hx9⟩ := getq (L := (tx n lt tg (an e0 ||| ol e0))) (k := pp) hp
  rw [hh _ _ hx9]
  have hxn := (tx_mem (List.mem_of_getElem? hx9)).1
  refine eg_iald hx hb hK hP 2 0 rfl rfl (by omega) (by decide) dX1_letterOf_44 ?_
  refine lv_goto (tgt := 49) hx hb dX1_letterOf_45 (by decide) ?_
  exact W.iret hx hb hr (fun t9 ht9 _ => ⟨some (.int (lt x9)), (wM q cI cJ (nI n) mk lt tg pa an kn row1 (nI (tx n lt tg (an e0 ||| ol e0)).length) (nI 0)), rfl, ⟨_, _, x9, hx9, rfl, rfl⟩, rfl, by rw [ht9]; exact hP, hS.F ht9⟩) hS.2.2 dX1_letterOf_49
set_option maxHeartbeats 4000000 in
set_option maxRecDepth 100000 in
theorem c_X1_letterOf_no1 (l : Launch) (D : va_G) (cI cJ : ClassId) (q : Nat → Nat) (n : Nat) (mk lt tg : Nat → Int32) (pa an kn : Nat → Int64) (row : Nat → Int32) (len thr : Int32) (x : Int32) (y : Int32) (hI : Inv n lt tg an kn) (hbad : bad n x) : eg_MW D (tyL cI cJ) l yX1_letterOf wsX1_letterOf ({ frames := 3, cells := 0, slots := 0, locals := 65 }) 0 0 [.ref (q 0), .int x, .int y] (wM q cI cJ (nI n) mk lt tg pa an kn row len thr) (fun r w1 => ∃ (row' : Nat → Int32) (len' : Int32), r = some (.int (nI 0)) ∧ w1 = wM q cI cJ (nI n) mk lt tg pa an kn row' len' (nI 1)) := by
  refine Met.ofW (cc := cX1_letterOf) (maxL := 3) (ret := (some .int)) (by decide) rfl ?_
  intro p e s m args below meth c s₁ B hml hv
  obtain ⟨rfl, hP, hK, hD0⟩ := hv
  have hx := B.exec
  have hb := B.bytes
  have hr := B.returns
  have hts := atoms_spec (ws := wsX1_letterOf) B.pre
  have hown : s.vm.findClass RX1 = some m.cls := findClass_of_methodNamed B.named
  have hlocks := B.notSynchronized
  have hD := eg_D_of hD0
  have hS : va_S (eg_A (wM q cI cJ (nI n) mk lt tg pa an kn row len thr)) s.heap s.heap [] := va_S.rf
  have hin : ∀ w ∈ u_ws RX1 TX1 10, w ∈ wsX1_letterOf := by decide +kernel
  have hl := lv_entry ([.ref (q 0), .int x, .int y]) (n := 3) (Nat.le_of_ble_eq_true rfl)
  rw [lg_entry_eq]
  generalize (lg_sl ([.ref (q 0), .int x, .int y]) ++ List.replicate (3 - (lg_sl ([.ref (q 0), .int x, .int y])).length) Slot.unset).toArray = ls at hl ⊢
  have hl : lv_has ls 3 [(0, .ref (q 0)), (1, .int x), (2, .int y)] := hl
  generalize h0H : s.heap = H at hP ⊢
  have hS : va_S (eg_A (wM q cI cJ (nI n) mk lt tg pa an kn row len thr)) s.heap H [] := by rw [← h0H]; exact hS
  generalize ([] : List Loc) = locs at hS ⊢
  refine lv_aload_n hx hb dX1_letterOf_0 rfl (lv_at hl 0 rfl) ?_
  refine lv_aload_n hx hb dX1_letterOf_1 rfl (lv_at hl 0 rfl) ?_
  refine lv_iload_n hx hb dX1_letterOf_2 rfl (lv_at hl 1 rfl) ?_
  refine eg_callWV (As := [.int x]) (rest := [.ref (q 0)]) hx hb hml hown hts hK hP hD rfl hS (c_X1_looksAt_no l D cI cJ q n mk lt tg pa an kn row len thr x hI hbad) (cwV 1 hts gX1_letterOf_X1_looksAt rfl rfl rfl (by decide +kernel) ⟨Nat.le_of_ble_eq_true rfl, Nat.le_of_ble_eq_true rfl⟩) (va_recv hK hP (ci := 1) (q0 := 0) rfl rfl) rfl hl.1 rfl (Nat.le_of_ble_eq_true rfl) dX1_letterOf_3 ⟨Nat.zero_le _, Nat.zero_le _⟩ (fun v9 w9 H locs hR9 hw9 hP hS => ?_)
  obtain ⟨rfl, rfl⟩ := hR9
  refine eg_ifeq_b (tgt := 27) hx hb dX1_letterOf_6 (by decide) (fun _ => ?_) (fun h => Bool.noConfusion h)
  refine lv_iconst (v := nI 0) hx hb dX1_letterOf_27 (by decide +kernel) ?_
  refine eg_callWV (As := [.int (eb false)]) (rest := []) hx hb hml hown hts hK hP hD rfl hS (c_X1_asked_f l D cI cJ q n mk lt tg pa an kn row len thr  ) (cwV 1 hts gX1_letterOf_X1_asked rfl rfl rfl (by decide +kernel) ⟨Nat.le_of_ble_eq_true rfl, Nat.le_of_ble_eq_true rfl⟩) (va_recv hK hP (ci := 1) (q0 := 0) rfl rfl) rfl hl.1 rfl (Nat.le_of_ble_eq_true rfl) dX1_letterOf_28 ⟨Nat.zero_le _, Nat.zero_le _⟩ (fun v9 w9 H locs hR9 hw9 hP hS => ?_)
  obtain ⟨rfl, rfl⟩ := hR9
  refine eg_ifeq_b (tgt := 48) hx hb dX1_letterOf_31 (by decide) (fun _ => ?_) (fun h => Bool.noConfusion h)
  refine lv_iconst (v := nI 0) hx hb dX1_letterOf_48 (by decide +kernel) ?_
  exact W.iret hx hb hr (fun t9 ht9 _ => ⟨some (.int (nI 0)), (wM q cI cJ (nI n) mk lt tg pa an kn row len (nI 1)), rfl, ⟨_, _, rfl, rfl⟩, rfl, by rw [ht9]; exact hP, hS.F ht9⟩) hS.2.2 dX1_letterOf_49
set_option maxHeartbeats 4000000 in
set_option maxRecDepth 100000 in
theorem c_X1_letterOf_no2 (l : Launch) (D : va_G) (cI cJ : ClassId) (q : Nat → Nat) (n : Nat) (mk lt tg : Nat → Int32) (pa an kn : Nat → Int64) (row : Nat → Int32) (len thr : Int32) (e0 : Nat) (y : Int32) (hI : Inv n lt tg an kn) (he : e0 < n) (hbad : bad (tx n lt tg (an e0 ||| ol e0)).length y) : eg_MW D (tyL cI cJ) l yX1_letterOf wsX1_letterOf ({ frames := 3, cells := 0, slots := 0, locals := 70 }) 0 0 [.ref (q 0), .int (nI e0), .int y] (wM q cI cJ (nI n) mk lt tg pa an kn row len thr) (fun r w1 => ∃ (row' : Nat → Int32) (len' : Int32), r = some (.int (nI 0)) ∧ w1 = wM q cI cJ (nI n) mk lt tg pa an kn row' len' (nI 1)) := by
  refine Met.ofW (cc := cX1_letterOf) (maxL := 3) (ret := (some .int)) (by decide) rfl ?_
  intro p e s m args below meth c s₁ B hml hv
  obtain ⟨rfl, hP, hK, hD0⟩ := hv
  have hx := B.exec
  have hb := B.bytes
  have hr := B.returns
  have hts := atoms_spec (ws := wsX1_letterOf) B.pre
  have hown : s.vm.findClass RX1 = some m.cls := findClass_of_methodNamed B.named
  have hlocks := B.notSynchronized
  have hD := eg_D_of hD0
  have hS : va_S (eg_A (wM q cI cJ (nI n) mk lt tg pa an kn row len thr)) s.heap s.heap [] := va_S.rf
  have hin : ∀ w ∈ u_ws RX1 TX1 10, w ∈ wsX1_letterOf := by decide +kernel
  have hl := lv_entry ([.ref (q 0), .int (nI e0), .int y]) (n := 3) (Nat.le_of_ble_eq_true rfl)
  rw [lg_entry_eq]
  generalize (lg_sl ([.ref (q 0), .int (nI e0), .int y]) ++ List.replicate (3 - (lg_sl ([.ref (q 0), .int (nI e0), .int y])).length) Slot.unset).toArray = ls at hl ⊢
  have hl : lv_has ls 3 [(0, .ref (q 0)), (1, .int (nI e0)), (2, .int y)] := hl
  generalize h0H : s.heap = H at hP ⊢
  have hS : va_S (eg_A (wM q cI cJ (nI n) mk lt tg pa an kn row len thr)) s.heap H [] := by rw [← h0H]; exact hS
  generalize ([] : List Loc) = locs at hS ⊢
  refine lv_aload_n hx hb dX1_letterOf_0 rfl (lv_at hl 0 rfl) ?_
  refine lv_aload_n hx hb dX1_letterOf_1 rfl (lv_at hl 0 rfl) ?_
  refine lv_iload_n hx hb dX1_letterOf_2 rfl (lv_at hl 1 rfl) ?_
  refine eg_callWV (As := [.int (nI e0)]) (rest := [.ref (q 0)]) hx hb hml hown hts hK hP hD rfl hS (c_X1_looksAt l D cI cJ q n mk lt tg pa an kn row len thr e0 hI he) (cwV 1 hts gX1_letterOf_X1_looksAt rfl rfl rfl (by decide +kernel) ⟨Nat.le_of_ble_eq_true rfl, Nat.le_of_ble_eq_true rfl⟩) (va_recv hK hP (ci := 1) (q0 := 0) rfl rfl) rfl hl.1 rfl (Nat.le_of_ble_eq_true rfl) dX1_letterOf_3 ⟨Nat.zero_le _, Nat.zero_le _⟩ (fun v9 w9 H locs hR9 hw9 hP hS => ?_)
  obtain ⟨row1, rfl, rfl, hh⟩ := hR9
  have hT9 := tx_len hI (hI.ve he)
  have hI1 := hI.1
  refine eg_ifeq_b (tgt := 27) hx hb dX1_letterOf_6 (by decide) (fun h => Bool.noConfusion h) (fun _ => ?_)
  refine lv_iload_n hx hb dX1_letterOf_9 rfl (lv_at hl 2 rfl) ?_
  refine lv_iconst (v := nI 0) hx hb dX1_letterOf_10 (by decide +kernel) ?_
  refine lv_aload_n hx hb dX1_letterOf_11 rfl (lv_at hl 0 rfl) ?_
  refine va_get (D := D) (ci := 1) (v := .int (nI ((tx n lt tg (an e0 ||| ol e0)).length))) (C := RX1) (T := TX1) (N := 10) hx hb hts hin hown hK hP 0 rfl rfl 8 (by decide) (hts (.fieldLink RX1 49 "EditGraphModel" "length" "I") (by decide +kernel)) (fun _ h9 => h9) rfl dX1_letterOf_12 ?_
  refine lv_iconst (v := nI 1) hx hb dX1_letterOf_15 (by decide +kernel) ?_
  refine lv_isub hx hb dX1_letterOf_16 ?_
  refine eg_callS (As := [.int y, .int (nI 0), .int ((nI ((tx n lt tg (an e0 ||| ol e0)).length)) - (nI 1))]) (rest := [.ref (q 0)]) hx hb hml hown hts hK (c_X1_in l D cI cJ y (nI 0) ((nI ((tx n lt tg (an e0 ||| ol e0)).length)) - (nI 1)) ) (va_cwS 3 hts gX1_letterOf_X1_in rfl rfl rfl (by decide +kernel) ⟨Nat.le_of_ble_eq_true rfl, Nat.le_of_ble_eq_true rfl⟩) rfl hl.1 rfl (Nat.le_of_ble_eq_true rfl) dX1_letterOf_17 ⟨Nat.zero_le _, Nat.zero_le _⟩ ?_
  rw [inr_sub (L := ((tx n lt tg (an e0 ||| ol e0)).length)) _ (by omega)]
  rw [show ev ((tx n lt tg (an e0 ||| ol e0)).length) y = false from bad_ev hbad]
  refine eg_ifeq_b (tgt := 27) hx hb dX1_letterOf_20 (by decide) (fun _ => ?_) (fun h => Bool.noConfusion h)
  refine lv_iconst (v := nI 0) hx hb dX1_letterOf_27 (by decide +kernel) ?_
  refine eg_callWV (As := [.int (eb false)]) (rest := []) hx hb hml hown hts hK hP hD rfl hS (c_X1_asked_f l D cI cJ q n mk lt tg pa an kn row1 (nI (tx n lt tg (an e0 ||| ol e0)).length) thr  ) (cwV 1 hts gX1_letterOf_X1_asked rfl rfl rfl (by decide +kernel) ⟨Nat.le_of_ble_eq_true rfl, Nat.le_of_ble_eq_true rfl⟩) (va_recv hK hP (ci := 1) (q0 := 0) rfl rfl) rfl hl.1 rfl (Nat.le_of_ble_eq_true rfl) dX1_letterOf_28 ⟨Nat.zero_le _, Nat.zero_le _⟩ (fun v9 w9 H locs hR9 hw9 hP hS => ?_)
  obtain ⟨rfl, rfl⟩ := hR9
  refine eg_ifeq_b (tgt := 48) hx hb dX1_letterOf_31 (by decide) (fun _ => ?_) (fun h => Bool.noConfusion h)
  refine lv_iconst (v := nI 0) hx hb dX1_letterOf_48 (by decide +kernel) ?_
  exact W.iret hx hb hr (fun t9 ht9 _ => ⟨some (.int (nI 0)), (wM q cI cJ (nI n) mk lt tg pa an kn row1 (nI (tx n lt tg (an e0 ||| ol e0)).length) (nI 1)), rfl, ⟨_, _, rfl, rfl⟩, rfl, by rw [ht9]; exact hP, hS.F ht9⟩) hS.2.2 dX1_letterOf_49
set_option maxHeartbeats 4000000 in
set_option maxRecDepth 100000 in
theorem c_X1_letterByList (l : Launch) (D : va_G) (cI cJ : ClassId) (q : Nat → Nat) (n : Nat) (mk lt tg : Nat → Int32) (pa an kn : Nat → Int64) (row : Nat → Int32) (len thr : Int32) (a : Nat) (pp : Nat) (hI : Inv n lt tg an kn) (ha : a < 4) (hp : pp < (tx n lt tg (kn a)).length) : eg_MW D (tyL cI cJ) l yX1_letterByList wsX1_letterByList ({ frames := 4, cells := 0, slots := 0, locals := 92 }) 0 0 [.ref (q 0), .int (nI a), .int (nI pp)] (wM q cI cJ (nI n) mk lt tg pa an kn row len thr) (fun r w1 => ∃ (row' : Nat → Int32) (len' : Int32) (x : Nat), (tx n lt tg (kn a))[pp]? = some x ∧ r = some (.int (lt x)) ∧ w1 = wM q cI cJ (nI n) mk lt tg pa an kn row' len' (nI 0)) := by
  refine Met.ofW (cc := cX1_letterByList) (maxL := 3) (ret := (some .int)) (by decide) rfl ?_
  intro p e s m args below meth c s₁ B hml hv
  obtain ⟨rfl, hP, hK, hD0⟩ := hv
  have hx := B.exec
  have hb := B.bytes
  have hr := B.returns
  have hts := atoms_spec (ws := wsX1_letterByList) B.pre
  have hown : s.vm.findClass RX1 = some m.cls := findClass_of_methodNamed B.named
  have hlocks := B.notSynchronized
  have hD := eg_D_of hD0
  have hS : va_S (eg_A (wM q cI cJ (nI n) mk lt tg pa an kn row len thr)) s.heap s.heap [] := va_S.rf
  have hl := lv_entry ([.ref (q 0), .int (nI a), .int (nI pp)]) (n := 3) (Nat.le_of_ble_eq_true rfl)
  rw [lg_entry_eq]
  generalize (lg_sl ([.ref (q 0), .int (nI a), .int (nI pp)]) ++ List.replicate (3 - (lg_sl ([.ref (q 0), .int (nI a), .int (nI pp)])).length) Slot.unset).toArray = ls at hl ⊢
  have hl : lv_has ls 3 [(0, .ref (q 0)), (1, .int (nI a)), (2, .int (nI pp))] := hl
  generalize h0H : s.heap = H at hP ⊢
  have hS : va_S (eg_A (wM q cI cJ (nI n) mk lt tg pa an kn row len thr)) s.heap H [] := by rw [← h0H]; exact hS
  generalize ([] : List Loc) = locs at hS ⊢
  refine lv_aload_n hx hb dX1_letterByList_0 rfl (lv_at hl 0 rfl) ?_
  refine lv_iload_n hx hb dX1_letterByList_1 rfl (lv_at hl 1 rfl) ?_
  refine lv_iload_n hx hb dX1_letterByList_2 rfl (lv_at hl 2 rfl) ?_
  refine eg_callWV (As := [.int (nI a), .int (nI pp)]) (rest := []) hx hb hml hown hts hK hP hD rfl hS (c_X1_letterAt l D cI cJ q n mk lt tg pa an kn row len thr a pp hI ha hp) (cwV 2 hts gX1_letterByList_X1_letterAt rfl rfl rfl (by decide +kernel) ⟨Nat.le_of_ble_eq_true rfl, Nat.le_of_ble_eq_true rfl⟩) (va_recv hK hP (ci := 1) (q0 := 0) rfl rfl) rfl hl.1 rfl (Nat.le_of_ble_eq_true rfl) dX1_letterByList_3 ⟨Nat.zero_le _, Nat.zero_le _⟩ (fun v9 w9 H locs hR9 hw9 hP hS => ?_)
  obtain ⟨row9, len9, x9, hx9, rfl, rfl⟩ := hR9
  exact W.iret hx hb hr (fun t9 ht9 _ => ⟨some (.int (lt x9)), (wM q cI cJ (nI n) mk lt tg pa an kn row9 len9 (nI 0)), rfl, ⟨_, _, x9, hx9, rfl, rfl⟩, rfl, by rw [ht9]; exact hP, hS.F ht9⟩) hS.2.2 dX1_letterByList_6
set_option maxHeartbeats 4000000 in
set_option maxRecDepth 100000 in
theorem c_X1_letterByList_no1 (l : Launch) (D : va_G) (cI cJ : ClassId) (q : Nat → Nat) (n : Nat) (mk lt tg : Nat → Int32) (pa an kn : Nat → Int64) (row : Nat → Int32) (len thr : Int32) (x : Int32) (y : Int32) (hbad : bad 4 x) : eg_MW D (tyL cI cJ) l yX1_letterByList wsX1_letterByList ({ frames := 4, cells := 0, slots := 0, locals := 86 }) 0 0 [.ref (q 0), .int x, .int y] (wM q cI cJ (nI n) mk lt tg pa an kn row len thr) (fun r w1 => ∃ (row' : Nat → Int32) (len' : Int32), r = some (.int (nI 0)) ∧ w1 = wM q cI cJ (nI n) mk lt tg pa an kn row' len' (nI 1)) := by
  refine Met.ofW (cc := cX1_letterByList) (maxL := 3) (ret := (some .int)) (by decide) rfl ?_
  intro p e s m args below meth c s₁ B hml hv
  obtain ⟨rfl, hP, hK, hD0⟩ := hv
  have hx := B.exec
  have hb := B.bytes
  have hr := B.returns
  have hts := atoms_spec (ws := wsX1_letterByList) B.pre
  have hown : s.vm.findClass RX1 = some m.cls := findClass_of_methodNamed B.named
  have hlocks := B.notSynchronized
  have hD := eg_D_of hD0
  have hS : va_S (eg_A (wM q cI cJ (nI n) mk lt tg pa an kn row len thr)) s.heap s.heap [] := va_S.rf
  have hl := lv_entry ([.ref (q 0), .int x, .int y]) (n := 3) (Nat.le_of_ble_eq_true rfl)
  rw [lg_entry_eq]
  generalize (lg_sl ([.ref (q 0), .int x, .int y]) ++ List.replicate (3 - (lg_sl ([.ref (q 0), .int x, .int y])).length) Slot.unset).toArray = ls at hl ⊢
  have hl : lv_has ls 3 [(0, .ref (q 0)), (1, .int x), (2, .int y)] := hl
  generalize h0H : s.heap = H at hP ⊢
  have hS : va_S (eg_A (wM q cI cJ (nI n) mk lt tg pa an kn row len thr)) s.heap H [] := by rw [← h0H]; exact hS
  generalize ([] : List Loc) = locs at hS ⊢
  refine lv_aload_n hx hb dX1_letterByList_0 rfl (lv_at hl 0 rfl) ?_
  refine lv_iload_n hx hb dX1_letterByList_1 rfl (lv_at hl 1 rfl) ?_
  refine lv_iload_n hx hb dX1_letterByList_2 rfl (lv_at hl 2 rfl) ?_
  refine eg_callWV (As := [.int x, .int y]) (rest := []) hx hb hml hown hts hK hP hD rfl hS (c_X1_letterAt_no1 l D cI cJ q n mk lt tg pa an kn row len thr x y hbad) (cwV 2 hts gX1_letterByList_X1_letterAt rfl rfl rfl (by decide +kernel) ⟨Nat.le_of_ble_eq_true rfl, Nat.le_of_ble_eq_true rfl⟩) (va_recv hK hP (ci := 1) (q0 := 0) rfl rfl) rfl hl.1 rfl (Nat.le_of_ble_eq_true rfl) dX1_letterByList_3 ⟨Nat.zero_le _, Nat.zero_le _⟩ (fun v9 w9 H locs hR9 hw9 hP hS => ?_)
  obtain ⟨row9, len9, rfl, rfl⟩ := hR9
  exact W.iret hx hb hr (fun t9 ht9 _ => ⟨some (.int (nI 0)), (wM q cI cJ (nI n) mk lt tg pa an kn row9 len9 (nI 1)), rfl, ⟨_, _, rfl, rfl⟩, rfl, by rw [ht9]; exact hP, hS.F ht9⟩) hS.2.2 dX1_letterByList_6
set_option maxHeartbeats 4000000 in
set_option maxRecDepth 100000 in
theorem c_X1_letterByList_no2 (l : Launch) (D : va_G) (cI cJ : ClassId) (q : Nat → Nat) (n : Nat) (mk lt tg : Nat → Int32) (pa an kn : Nat → Int64) (row : Nat → Int32) (len thr : Int32) (a : Nat) (y : Int32) (hI : Inv n lt tg an kn) (ha : a < 4) (hbad : bad (tx n lt tg (kn a)).length y) : eg_MW D (tyL cI cJ) l yX1_letterByList wsX1_letterByList ({ frames := 4, cells := 0, slots := 0, locals := 92 }) 0 0 [.ref (q 0), .int (nI a), .int y] (wM q cI cJ (nI n) mk lt tg pa an kn row len thr) (fun r w1 => ∃ (row' : Nat → Int32) (len' : Int32), r = some (.int (nI 0)) ∧ w1 = wM q cI cJ (nI n) mk lt tg pa an kn row' len' (nI 1)) := by
  refine Met.ofW (cc := cX1_letterByList) (maxL := 3) (ret := (some .int)) (by decide) rfl ?_
  intro p e s m args below meth c s₁ B hml hv
  obtain ⟨rfl, hP, hK, hD0⟩ := hv
  have hx := B.exec
  have hb := B.bytes
  have hr := B.returns
  have hts := atoms_spec (ws := wsX1_letterByList) B.pre
  have hown : s.vm.findClass RX1 = some m.cls := findClass_of_methodNamed B.named
  have hlocks := B.notSynchronized
  have hD := eg_D_of hD0
  have hS : va_S (eg_A (wM q cI cJ (nI n) mk lt tg pa an kn row len thr)) s.heap s.heap [] := va_S.rf
  have hl := lv_entry ([.ref (q 0), .int (nI a), .int y]) (n := 3) (Nat.le_of_ble_eq_true rfl)
  rw [lg_entry_eq]
  generalize (lg_sl ([.ref (q 0), .int (nI a), .int y]) ++ List.replicate (3 - (lg_sl ([.ref (q 0), .int (nI a), .int y])).length) Slot.unset).toArray = ls at hl ⊢
  have hl : lv_has ls 3 [(0, .ref (q 0)), (1, .int (nI a)), (2, .int y)] := hl
  generalize h0H : s.heap = H at hP ⊢
  have hS : va_S (eg_A (wM q cI cJ (nI n) mk lt tg pa an kn row len thr)) s.heap H [] := by rw [← h0H]; exact hS
  generalize ([] : List Loc) = locs at hS ⊢
  refine lv_aload_n hx hb dX1_letterByList_0 rfl (lv_at hl 0 rfl) ?_
  refine lv_iload_n hx hb dX1_letterByList_1 rfl (lv_at hl 1 rfl) ?_
  refine lv_iload_n hx hb dX1_letterByList_2 rfl (lv_at hl 2 rfl) ?_
  refine eg_callWV (As := [.int (nI a), .int y]) (rest := []) hx hb hml hown hts hK hP hD rfl hS (c_X1_letterAt_no2 l D cI cJ q n mk lt tg pa an kn row len thr a y hI ha hbad) (cwV 2 hts gX1_letterByList_X1_letterAt rfl rfl rfl (by decide +kernel) ⟨Nat.le_of_ble_eq_true rfl, Nat.le_of_ble_eq_true rfl⟩) (va_recv hK hP (ci := 1) (q0 := 0) rfl rfl) rfl hl.1 rfl (Nat.le_of_ble_eq_true rfl) dX1_letterByList_3 ⟨Nat.zero_le _, Nat.zero_le _⟩ (fun v9 w9 H locs hR9 hw9 hP hS => ?_)
  obtain ⟨row9, len9, rfl, rfl⟩ := hR9
  exact W.iret hx hb hr (fun t9 ht9 _ => ⟨some (.int (nI 0)), (wM q cI cJ (nI n) mk lt tg pa an kn row9 len9 (nI 1)), rfl, ⟨_, _, rfl, rfl⟩, rfl, by rw [ht9]; exact hP, hS.F ht9⟩) hS.2.2 dX1_letterByList_6
set_option maxHeartbeats 4000000 in
set_option maxRecDepth 100000 in
theorem c_X1_authorOf (l : Launch) (D : va_G) (cI cJ : ClassId) (q : Nat → Nat) (n : Nat) (mk lt tg : Nat → Int32) (pa an kn : Nat → Int64) (row : Nat → Int32) (len thr : Int32) (e0 : Nat) (hI : Inv n lt tg an kn) (he : e0 < n) : eg_MW D (tyL cI cJ) l yX1_authorOf wsX1_authorOf ({ frames := 2, cells := 0, slots := 0, locals := 43 }) 0 0 [.ref (q 0), .int (nI e0)] (wM q cI cJ (nI n) mk lt tg pa an kn row len thr) (fun r w1 => r = some (.int (mk e0)) ∧ w1 = wM q cI cJ (nI n) mk lt tg pa an kn row len (nI 0)) := by
  have hI1 := hI.1
  refine Met.ofW (cc := cX1_authorOf) (maxL := 2) (ret := (some .int)) (by decide) rfl ?_
  intro p e s m args below meth c s₁ B hml hv
  obtain ⟨rfl, hP, hK, hD0⟩ := hv
  have hx := B.exec
  have hb := B.bytes
  have hr := B.returns
  have hts := atoms_spec (ws := wsX1_authorOf) B.pre
  have hown : s.vm.findClass RX1 = some m.cls := findClass_of_methodNamed B.named
  have hlocks := B.notSynchronized
  have hD := eg_D_of hD0
  have hS : va_S (eg_A (wM q cI cJ (nI n) mk lt tg pa an kn row len thr)) s.heap s.heap [] := va_S.rf
  have hin : ∀ w ∈ u_ws RX1 TX1 10, w ∈ wsX1_authorOf := by decide +kernel
  have hl := lv_entry ([.ref (q 0), .int (nI e0)]) (n := 2) (Nat.le_of_ble_eq_true rfl)
  rw [lg_entry_eq]
  generalize (lg_sl ([.ref (q 0), .int (nI e0)]) ++ List.replicate (2 - (lg_sl ([.ref (q 0), .int (nI e0)])).length) Slot.unset).toArray = ls at hl ⊢
  have hl : lv_has ls 2 [(0, .ref (q 0)), (1, .int (nI e0))] := hl
  generalize h0H : s.heap = H at hP ⊢
  have hS : va_S (eg_A (wM q cI cJ (nI n) mk lt tg pa an kn row len thr)) s.heap H [] := by rw [← h0H]; exact hS
  generalize ([] : List Loc) = locs at hS ⊢
  refine lv_aload_n hx hb dX1_authorOf_0 rfl (lv_at hl 0 rfl) ?_
  refine lv_aload_n hx hb dX1_authorOf_1 rfl (lv_at hl 0 rfl) ?_
  refine lv_iload_n hx hb dX1_authorOf_2 rfl (lv_at hl 1 rfl) ?_
  refine eg_callV (As := [.int (nI e0)]) (rest := [.ref (q 0)]) hx hb hml hown hts hK hP (c_X1_isEvent l D cI cJ q n mk lt tg pa an kn row len thr (nI e0) hI.1) (cwV 1 hts gX1_authorOf_X1_isEvent rfl rfl rfl (by decide +kernel) ⟨Nat.le_of_ble_eq_true rfl, Nat.le_of_ble_eq_true rfl⟩) (va_recv hK hP (ci := 1) (q0 := 0) rfl rfl) rfl hl.1 rfl (Nat.le_of_ble_eq_true rfl) dX1_authorOf_3 ⟨Nat.zero_le _, Nat.zero_le _⟩ ?_
  rw [show ev n (nI e0) = true from ev_nI (by have := hI.1; omega) he]
  refine eg_callWV (As := [.int (eb true)]) (rest := []) hx hb hml hown hts hK hP hD rfl hS (c_X1_asked_t l D cI cJ q n mk lt tg pa an kn row len thr  ) (cwV 1 hts gX1_authorOf_X1_asked rfl rfl rfl (by decide +kernel) ⟨Nat.le_of_ble_eq_true rfl, Nat.le_of_ble_eq_true rfl⟩) (va_recv hK hP (ci := 1) (q0 := 0) rfl rfl) rfl hl.1 rfl (Nat.le_of_ble_eq_true rfl) dX1_authorOf_6 ⟨Nat.zero_le _, Nat.zero_le _⟩ (fun v9 w9 H locs hR9 hw9 hP hS => ?_)
  obtain ⟨rfl, rfl⟩ := hR9
  refine eg_ifeq_b (tgt := 21) hx hb dX1_authorOf_9 (by decide) (fun h => Bool.noConfusion h) (fun _ => ?_)
  refine lv_aload_n hx hb dX1_authorOf_12 rfl (lv_at hl 0 rfl) ?_
  refine va_get (D := D) (ci := 1) (v := .ref (q 1)) (C := RX1) (T := TX1) (N := 10) hx hb hts hin hown hK hP 0 rfl rfl 0 (by decide) (hts (.fieldLink RX1 7 "EditGraphModel" "authorOf" "[I") (by decide +kernel)) (fun _ h9 => h9) rfl dX1_authorOf_13 ?_
  refine lv_iload_n hx hb dX1_authorOf_16 rfl (lv_at hl 1 rfl) ?_
  refine eg_iald hx hb hK hP 1 0 rfl rfl (by omega) (by decide) dX1_authorOf_17 ?_
  refine lv_goto (tgt := 22) hx hb dX1_authorOf_18 (by decide) ?_
  exact W.iret hx hb hr (fun t9 ht9 _ => ⟨some (.int (mk e0)), (wM q cI cJ (nI n) mk lt tg pa an kn row len (nI 0)), rfl, ⟨rfl, rfl⟩, rfl, by rw [ht9]; exact hP, hS.F ht9⟩) hS.2.2 dX1_authorOf_22
set_option maxHeartbeats 4000000 in
set_option maxRecDepth 100000 in
theorem c_X1_authorOf_no1 (l : Launch) (D : va_G) (cI cJ : ClassId) (q : Nat → Nat) (n : Nat) (mk lt tg : Nat → Int32) (pa an kn : Nat → Int64) (row : Nat → Int32) (len thr : Int32) (x : Int32) (hI : Inv n lt tg an kn) (hbad : bad n x) : eg_MW D (tyL cI cJ) l yX1_authorOf wsX1_authorOf ({ frames := 2, cells := 0, slots := 0, locals := 43 }) 0 0 [.ref (q 0), .int x] (wM q cI cJ (nI n) mk lt tg pa an kn row len thr) (fun r w1 => ∃ (row' : Nat → Int32) (len' : Int32), r = some (.int (nI 0)) ∧ w1 = wM q cI cJ (nI n) mk lt tg pa an kn row' len' (nI 1)) := by
  refine Met.ofW (cc := cX1_authorOf) (maxL := 2) (ret := (some .int)) (by decide) rfl ?_
  intro p e s m args below meth c s₁ B hml hv
  obtain ⟨rfl, hP, hK, hD0⟩ := hv
  have hx := B.exec
  have hb := B.bytes
  have hr := B.returns
  have hts := atoms_spec (ws := wsX1_authorOf) B.pre
  have hown : s.vm.findClass RX1 = some m.cls := findClass_of_methodNamed B.named
  have hlocks := B.notSynchronized
  have hD := eg_D_of hD0
  have hS : va_S (eg_A (wM q cI cJ (nI n) mk lt tg pa an kn row len thr)) s.heap s.heap [] := va_S.rf
  have hin : ∀ w ∈ u_ws RX1 TX1 10, w ∈ wsX1_authorOf := by decide +kernel
  have hl := lv_entry ([.ref (q 0), .int x]) (n := 2) (Nat.le_of_ble_eq_true rfl)
  rw [lg_entry_eq]
  generalize (lg_sl ([.ref (q 0), .int x]) ++ List.replicate (2 - (lg_sl ([.ref (q 0), .int x])).length) Slot.unset).toArray = ls at hl ⊢
  have hl : lv_has ls 2 [(0, .ref (q 0)), (1, .int x)] := hl
  generalize h0H : s.heap = H at hP ⊢
  have hS : va_S (eg_A (wM q cI cJ (nI n) mk lt tg pa an kn row len thr)) s.heap H [] := by rw [← h0H]; exact hS
  generalize ([] : List Loc) = locs at hS ⊢
  refine lv_aload_n hx hb dX1_authorOf_0 rfl (lv_at hl 0 rfl) ?_
  refine lv_aload_n hx hb dX1_authorOf_1 rfl (lv_at hl 0 rfl) ?_
  refine lv_iload_n hx hb dX1_authorOf_2 rfl (lv_at hl 1 rfl) ?_
  refine eg_callV (As := [.int x]) (rest := [.ref (q 0)]) hx hb hml hown hts hK hP (c_X1_isEvent l D cI cJ q n mk lt tg pa an kn row len thr x hI.1) (cwV 1 hts gX1_authorOf_X1_isEvent rfl rfl rfl (by decide +kernel) ⟨Nat.le_of_ble_eq_true rfl, Nat.le_of_ble_eq_true rfl⟩) (va_recv hK hP (ci := 1) (q0 := 0) rfl rfl) rfl hl.1 rfl (Nat.le_of_ble_eq_true rfl) dX1_authorOf_3 ⟨Nat.zero_le _, Nat.zero_le _⟩ ?_
  rw [show ev n x = false from bad_ev hbad]
  refine eg_callWV (As := [.int (eb false)]) (rest := []) hx hb hml hown hts hK hP hD rfl hS (c_X1_asked_f l D cI cJ q n mk lt tg pa an kn row len thr  ) (cwV 1 hts gX1_authorOf_X1_asked rfl rfl rfl (by decide +kernel) ⟨Nat.le_of_ble_eq_true rfl, Nat.le_of_ble_eq_true rfl⟩) (va_recv hK hP (ci := 1) (q0 := 0) rfl rfl) rfl hl.1 rfl (Nat.le_of_ble_eq_true rfl) dX1_authorOf_6 ⟨Nat.zero_le _, Nat.zero_le _⟩ (fun v9 w9 H locs hR9 hw9 hP hS => ?_)
  obtain ⟨rfl, rfl⟩ := hR9
  refine eg_ifeq_b (tgt := 21) hx hb dX1_authorOf_9 (by decide) (fun _ => ?_) (fun h => Bool.noConfusion h)
  refine lv_iconst (v := nI 0) hx hb dX1_authorOf_21 (by decide +kernel) ?_
  exact W.iret hx hb hr (fun t9 ht9 _ => ⟨some (.int (nI 0)), (wM q cI cJ (nI n) mk lt tg pa an kn row len (nI 1)), rfl, ⟨_, _, rfl, rfl⟩, rfl, by rw [ht9]; exact hP, hS.F ht9⟩) hS.2.2 dX1_authorOf_22
set_option maxHeartbeats 4000000 in
set_option maxRecDepth 100000 in
theorem c_X1_parents (l : Launch) (D : va_G) (cI cJ : ClassId) (q : Nat → Nat) (n : Nat) (mk lt tg : Nat → Int32) (pa an kn : Nat → Int64) (row : Nat → Int32) (len thr : Int32) (e0 : Nat) (hI : Inv n lt tg an kn) (he : e0 < n) : eg_MW D (tyL cI cJ) l yX1_parents wsX1_parents ({ frames := 2, cells := 0, slots := 0, locals := 43 }) 0 0 [.ref (q 0), .int (nI e0)] (wM q cI cJ (nI n) mk lt tg pa an kn row len thr) (fun r w1 => r = some (.long (pa e0)) ∧ w1 = wM q cI cJ (nI n) mk lt tg pa an kn row len (nI 0)) := by
  have hI1 := hI.1
  refine Met.ofW (cc := cX1_parents) (maxL := 2) (ret := (some .long)) (by decide) rfl ?_
  intro p e s m args below meth c s₁ B hml hv
  obtain ⟨rfl, hP, hK, hD0⟩ := hv
  have hx := B.exec
  have hb := B.bytes
  have hr := B.returns
  have hts := atoms_spec (ws := wsX1_parents) B.pre
  have hown : s.vm.findClass RX1 = some m.cls := findClass_of_methodNamed B.named
  have hlocks := B.notSynchronized
  have hD := eg_D_of hD0
  have hS : va_S (eg_A (wM q cI cJ (nI n) mk lt tg pa an kn row len thr)) s.heap s.heap [] := va_S.rf
  have hin : ∀ w ∈ u_ws RX1 TX1 10, w ∈ wsX1_parents := by decide +kernel
  have hl := lv_entry ([.ref (q 0), .int (nI e0)]) (n := 2) (Nat.le_of_ble_eq_true rfl)
  rw [lg_entry_eq]
  generalize (lg_sl ([.ref (q 0), .int (nI e0)]) ++ List.replicate (2 - (lg_sl ([.ref (q 0), .int (nI e0)])).length) Slot.unset).toArray = ls at hl ⊢
  have hl : lv_has ls 2 [(0, .ref (q 0)), (1, .int (nI e0))] := hl
  generalize h0H : s.heap = H at hP ⊢
  have hS : va_S (eg_A (wM q cI cJ (nI n) mk lt tg pa an kn row len thr)) s.heap H [] := by rw [← h0H]; exact hS
  generalize ([] : List Loc) = locs at hS ⊢
  refine lv_aload_n hx hb dX1_parents_0 rfl (lv_at hl 0 rfl) ?_
  refine lv_aload_n hx hb dX1_parents_1 rfl (lv_at hl 0 rfl) ?_
  refine lv_iload_n hx hb dX1_parents_2 rfl (lv_at hl 1 rfl) ?_
  refine eg_callV (As := [.int (nI e0)]) (rest := [.ref (q 0)]) hx hb hml hown hts hK hP (c_X1_isEvent l D cI cJ q n mk lt tg pa an kn row len thr (nI e0) hI.1) (cwV 1 hts gX1_parents_X1_isEvent rfl rfl rfl (by decide +kernel) ⟨Nat.le_of_ble_eq_true rfl, Nat.le_of_ble_eq_true rfl⟩) (va_recv hK hP (ci := 1) (q0 := 0) rfl rfl) rfl hl.1 rfl (Nat.le_of_ble_eq_true rfl) dX1_parents_3 ⟨Nat.zero_le _, Nat.zero_le _⟩ ?_
  rw [show ev n (nI e0) = true from ev_nI (by have := hI.1; omega) he]
  refine eg_callWV (As := [.int (eb true)]) (rest := []) hx hb hml hown hts hK hP hD rfl hS (c_X1_asked_t l D cI cJ q n mk lt tg pa an kn row len thr  ) (cwV 1 hts gX1_parents_X1_asked rfl rfl rfl (by decide +kernel) ⟨Nat.le_of_ble_eq_true rfl, Nat.le_of_ble_eq_true rfl⟩) (va_recv hK hP (ci := 1) (q0 := 0) rfl rfl) rfl hl.1 rfl (Nat.le_of_ble_eq_true rfl) dX1_parents_6 ⟨Nat.zero_le _, Nat.zero_le _⟩ (fun v9 w9 H locs hR9 hw9 hP hS => ?_)
  obtain ⟨rfl, rfl⟩ := hR9
  refine eg_ifeq_b (tgt := 21) hx hb dX1_parents_9 (by decide) (fun h => Bool.noConfusion h) (fun _ => ?_)
  refine lv_aload_n hx hb dX1_parents_12 rfl (lv_at hl 0 rfl) ?_
  refine va_get (D := D) (ci := 1) (v := .ref (q 4)) (C := RX1) (T := TX1) (N := 10) hx hb hts hin hown hK hP 0 rfl rfl 3 (by decide) (hts (.fieldLink RX1 19 "EditGraphModel" "parents" "[J") (by decide +kernel)) (fun _ h9 => h9) rfl dX1_parents_13 ?_
  refine lv_iload_n hx hb dX1_parents_16 rfl (lv_at hl 1 rfl) ?_
  refine eg_lald hx hb hK hP 4 1 rfl rfl (by omega) (by decide) dX1_parents_17 ?_
  refine lv_goto (tgt := 22) hx hb dX1_parents_18 (by decide) ?_
  exact W.lret hx hb hr (fun t9 ht9 _ => ⟨some (.long (pa e0)), (wM q cI cJ (nI n) mk lt tg pa an kn row len (nI 0)), rfl, ⟨rfl, rfl⟩, rfl, by rw [ht9]; exact hP, hS.F ht9⟩) hS.2.2 dX1_parents_22
set_option maxHeartbeats 4000000 in
set_option maxRecDepth 100000 in
theorem c_X1_parents_no1 (l : Launch) (D : va_G) (cI cJ : ClassId) (q : Nat → Nat) (n : Nat) (mk lt tg : Nat → Int32) (pa an kn : Nat → Int64) (row : Nat → Int32) (len thr : Int32) (x : Int32) (hI : Inv n lt tg an kn) (hbad : bad n x) : eg_MW D (tyL cI cJ) l yX1_parents wsX1_parents ({ frames := 2, cells := 0, slots := 0, locals := 43 }) 0 0 [.ref (q 0), .int x] (wM q cI cJ (nI n) mk lt tg pa an kn row len thr) (fun r w1 => ∃ (row' : Nat → Int32) (len' : Int32), r = some (.long 0) ∧ w1 = wM q cI cJ (nI n) mk lt tg pa an kn row' len' (nI 1)) := by
  refine Met.ofW (cc := cX1_parents) (maxL := 2) (ret := (some .long)) (by decide) rfl ?_
  intro p e s m args below meth c s₁ B hml hv
  obtain ⟨rfl, hP, hK, hD0⟩ := hv
  have hx := B.exec
  have hb := B.bytes
  have hr := B.returns
  have hts := atoms_spec (ws := wsX1_parents) B.pre
  have hown : s.vm.findClass RX1 = some m.cls := findClass_of_methodNamed B.named
  have hlocks := B.notSynchronized
  have hD := eg_D_of hD0
  have hS : va_S (eg_A (wM q cI cJ (nI n) mk lt tg pa an kn row len thr)) s.heap s.heap [] := va_S.rf
  have hin : ∀ w ∈ u_ws RX1 TX1 10, w ∈ wsX1_parents := by decide +kernel
  have hl := lv_entry ([.ref (q 0), .int x]) (n := 2) (Nat.le_of_ble_eq_true rfl)
  rw [lg_entry_eq]
  generalize (lg_sl ([.ref (q 0), .int x]) ++ List.replicate (2 - (lg_sl ([.ref (q 0), .int x])).length) Slot.unset).toArray = ls at hl ⊢
  have hl : lv_has ls 2 [(0, .ref (q 0)), (1, .int x)] := hl
  generalize h0H : s.heap = H at hP ⊢
  have hS : va_S (eg_A (wM q cI cJ (nI n) mk lt tg pa an kn row len thr)) s.heap H [] := by rw [← h0H]; exact hS
  generalize ([] : List Loc) = locs at hS ⊢
  refine lv_aload_n hx hb dX1_parents_0 rfl (lv_at hl 0 rfl) ?_
  refine lv_aload_n hx hb dX1_parents_1 rfl (lv_at hl 0 rfl) ?_
  refine lv_iload_n hx hb dX1_parents_2 rfl (lv_at hl 1 rfl) ?_
  refine eg_callV (As := [.int x]) (rest := [.ref (q 0)]) hx hb hml hown hts hK hP (c_X1_isEvent l D cI cJ q n mk lt tg pa an kn row len thr x hI.1) (cwV 1 hts gX1_parents_X1_isEvent rfl rfl rfl (by decide +kernel) ⟨Nat.le_of_ble_eq_true rfl, Nat.le_of_ble_eq_true rfl⟩) (va_recv hK hP (ci := 1) (q0 := 0) rfl rfl) rfl hl.1 rfl (Nat.le_of_ble_eq_true rfl) dX1_parents_3 ⟨Nat.zero_le _, Nat.zero_le _⟩ ?_
  rw [show ev n x = false from bad_ev hbad]
  refine eg_callWV (As := [.int (eb false)]) (rest := []) hx hb hml hown hts hK hP hD rfl hS (c_X1_asked_f l D cI cJ q n mk lt tg pa an kn row len thr  ) (cwV 1 hts gX1_parents_X1_asked rfl rfl rfl (by decide +kernel) ⟨Nat.le_of_ble_eq_true rfl, Nat.le_of_ble_eq_true rfl⟩) (va_recv hK hP (ci := 1) (q0 := 0) rfl rfl) rfl hl.1 rfl (Nat.le_of_ble_eq_true rfl) dX1_parents_6 ⟨Nat.zero_le _, Nat.zero_le _⟩ (fun v9 w9 H locs hR9 hw9 hP hS => ?_)
  obtain ⟨rfl, rfl⟩ := hR9
  refine eg_ifeq_b (tgt := 21) hx hb dX1_parents_9 (by decide) (fun _ => ?_) (fun h => Bool.noConfusion h)
  refine lv_lconst (v := 0) hx hb dX1_parents_21 (by decide) ?_
  exact W.lret hx hb hr (fun t9 ht9 _ => ⟨some (.long 0), (wM q cI cJ (nI n) mk lt tg pa an kn row len (nI 1)), rfl, ⟨_, _, rfl, rfl⟩, rfl, by rw [ht9]; exact hP, hS.F ht9⟩) hS.2.2 dX1_parents_22
set_option maxHeartbeats 4000000 in
set_option maxRecDepth 100000 in
theorem c_X1_isLater (l : Launch) (D : va_G) (cI cJ : ClassId) (q : Nat → Nat) (n : Nat) (mk lt tg : Nat → Int32) (pa an kn : Nat → Int64) (row : Nat → Int32) (len thr : Int32) (e0 : Nat) (e1 : Nat) (hI : Inv n lt tg an kn) (he : e0 < n) (he1 : e1 < n) : eg_MW D (tyL cI cJ) l yX1_isLater wsX1_isLater ({ frames := 2, cells := 0, slots := 0, locals := 43 }) 0 0 [.ref (q 0), .int (nI e0), .int (nI e1)] (wM q cI cJ (nI n) mk lt tg pa an kn row len thr) (fun r w1 => r = some (.int (eb (bi (an e0) e1))) ∧ w1 = wM q cI cJ (nI n) mk lt tg pa an kn row len (nI 0)) := by
  have hI1 := hI.1
  refine Met.ofW (cc := cX1_isLater) (maxL := 3) (ret := (some .boolean)) (by decide) rfl ?_
  intro p e s m args below meth c s₁ B hml hv
  obtain ⟨rfl, hP, hK, hD0⟩ := hv
  have hx := B.exec
  have hb := B.bytes
  have hr := B.returns
  have hts := atoms_spec (ws := wsX1_isLater) B.pre
  have hown : s.vm.findClass RX1 = some m.cls := findClass_of_methodNamed B.named
  have hlocks := B.notSynchronized
  have hD := eg_D_of hD0
  have hS : va_S (eg_A (wM q cI cJ (nI n) mk lt tg pa an kn row len thr)) s.heap s.heap [] := va_S.rf
  have hin : ∀ w ∈ u_ws RX1 TX1 10, w ∈ wsX1_isLater := by decide +kernel
  have hl := lv_entry ([.ref (q 0), .int (nI e0), .int (nI e1)]) (n := 3) (Nat.le_of_ble_eq_true rfl)
  rw [lg_entry_eq]
  generalize (lg_sl ([.ref (q 0), .int (nI e0), .int (nI e1)]) ++ List.replicate (3 - (lg_sl ([.ref (q 0), .int (nI e0), .int (nI e1)])).length) Slot.unset).toArray = ls at hl ⊢
  have hl : lv_has ls 3 [(0, .ref (q 0)), (1, .int (nI e0)), (2, .int (nI e1))] := hl
  generalize h0H : s.heap = H at hP ⊢
  have hS : va_S (eg_A (wM q cI cJ (nI n) mk lt tg pa an kn row len thr)) s.heap H [] := by rw [← h0H]; exact hS
  generalize ([] : List Loc) = locs at hS ⊢
  refine lv_aload_n hx hb dX1_isLater_0 rfl (lv_at hl 0 rfl) ?_
  refine lv_aload_n hx hb dX1_isLater_1 rfl (lv_at hl 0 rfl) ?_
  refine lv_iload_n hx hb dX1_isLater_2 rfl (lv_at hl 1 rfl) ?_
  refine eg_callV (As := [.int (nI e0)]) (rest := [.ref (q 0)]) hx hb hml hown hts hK hP (c_X1_isEvent l D cI cJ q n mk lt tg pa an kn row len thr (nI e0) hI.1) (cwV 1 hts gX1_isLater_X1_isEvent rfl rfl rfl (by decide +kernel) ⟨Nat.le_of_ble_eq_true rfl, Nat.le_of_ble_eq_true rfl⟩) (va_recv hK hP (ci := 1) (q0 := 0) rfl rfl) rfl hl.1 rfl (Nat.le_of_ble_eq_true rfl) dX1_isLater_3 ⟨Nat.zero_le _, Nat.zero_le _⟩ ?_
  rw [show ev n (nI e0) = true from ev_nI (by have := hI.1; omega) he]
  refine eg_ifeq_b (tgt := 21) hx hb dX1_isLater_6 (by decide) (fun h => Bool.noConfusion h) (fun _ => ?_)
  refine lv_aload_n hx hb dX1_isLater_9 rfl (lv_at hl 0 rfl) ?_
  refine lv_iload_n hx hb dX1_isLater_10 rfl (lv_at hl 2 rfl) ?_
  refine eg_callV (As := [.int (nI e1)]) (rest := [.ref (q 0)]) hx hb hml hown hts hK hP (c_X1_isEvent l D cI cJ q n mk lt tg pa an kn row len thr (nI e1) hI.1) (cwV 1 hts gX1_isLater_X1_isEvent rfl rfl rfl (by decide +kernel) ⟨Nat.le_of_ble_eq_true rfl, Nat.le_of_ble_eq_true rfl⟩) (va_recv hK hP (ci := 1) (q0 := 0) rfl rfl) rfl hl.1 rfl (Nat.le_of_ble_eq_true rfl) dX1_isLater_11 ⟨Nat.zero_le _, Nat.zero_le _⟩ ?_
  rw [show ev n (nI e1) = true from ev_nI (by have := hI.1; omega) he1]
  refine eg_ifeq_b (tgt := 21) hx hb dX1_isLater_14 (by decide) (fun h => Bool.noConfusion h) (fun _ => ?_)
  refine lv_iconst (v := nI 1) hx hb dX1_isLater_17 (by decide +kernel) ?_
  refine lv_goto (tgt := 22) hx hb dX1_isLater_18 (by decide) ?_
  refine eg_callWV (As := [.int (eb true)]) (rest := []) hx hb hml hown hts hK hP hD rfl hS (c_X1_asked_t l D cI cJ q n mk lt tg pa an kn row len thr  ) (cwV 1 hts gX1_isLater_X1_asked rfl rfl rfl (by decide +kernel) ⟨Nat.le_of_ble_eq_true rfl, Nat.le_of_ble_eq_true rfl⟩) (va_recv hK hP (ci := 1) (q0 := 0) rfl rfl) rfl hl.1 rfl (Nat.le_of_ble_eq_true rfl) dX1_isLater_22 ⟨Nat.zero_le _, Nat.zero_le _⟩ (fun v9 w9 H locs hR9 hw9 hP hS => ?_)
  obtain ⟨rfl, rfl⟩ := hR9
  refine eg_ifeq_b (tgt := 45) hx hb dX1_isLater_25 (by decide) (fun h => Bool.noConfusion h) (fun _ => ?_)
  refine lv_aload_n hx hb dX1_isLater_28 rfl (lv_at hl 0 rfl) ?_
  refine va_get (D := D) (ci := 1) (v := .ref (q 5)) (C := RX1) (T := TX1) (N := 10) hx hb hts hin hown hK hP 0 rfl rfl 4 (by decide) (hts (.fieldLink RX1 23 "EditGraphModel" "ancestors" "[J") (by decide +kernel)) (fun _ h9 => h9) rfl dX1_isLater_29 ?_
  refine lv_iload_n hx hb dX1_isLater_32 rfl (lv_at hl 1 rfl) ?_
  refine eg_lald hx hb hK hP 5 1 rfl rfl (by omega) (by decide) dX1_isLater_33 ?_
  refine lv_iload_n hx hb dX1_isLater_34 rfl (lv_at hl 2 rfl) ?_
  refine eg_callS (As := [.long (an e0), .int (nI e1)]) (rest := []) hx hb hml hown hts hK (c_X1_has l D cI cJ (an e0) e1 (by omega)) (va_cwS 2 hts gX1_isLater_X1_has rfl rfl rfl (by decide +kernel) ⟨Nat.le_of_ble_eq_true rfl, Nat.le_of_ble_eq_true rfl⟩) rfl hl.1 rfl (Nat.le_of_ble_eq_true rfl) dX1_isLater_35 ⟨Nat.zero_le _, Nat.zero_le _⟩ ?_
  refine eg_ifeq_b (tgt := 45) hx hb dX1_isLater_38 (by decide) (fun c38 => ?_) (fun c38 => ?_)
  · refine lv_iconst (v := nI 0) hx hb dX1_isLater_45 (by decide +kernel) ?_
    exact W.zret hx hb hr (by first | rfl | exact eb_nar) (fun t9 ht9 _ => ⟨some (.int (nI 0)), (wM q cI cJ (nI n) mk lt tg pa an kn row len (nI 0)), rfl, ⟨congrArg (fun z => some (Value.int z)) (by first | exact eb_1 c38 | exact eb_z c38), rfl⟩, rfl, by rw [ht9]; exact hP, hS.F ht9⟩) hS.2.2 dX1_isLater_46
  · refine lv_iconst (v := nI 1) hx hb dX1_isLater_41 (by decide +kernel) ?_
    refine lv_goto (tgt := 46) hx hb dX1_isLater_42 (by decide) ?_
    exact W.zret hx hb hr (by first | rfl | exact eb_nar) (fun t9 ht9 _ => ⟨some (.int (nI 1)), (wM q cI cJ (nI n) mk lt tg pa an kn row len (nI 0)), rfl, ⟨congrArg (fun z => some (Value.int z)) (by first | exact eb_1 c38 | exact eb_z c38), rfl⟩, rfl, by rw [ht9]; exact hP, hS.F ht9⟩) hS.2.2 dX1_isLater_46
set_option maxHeartbeats 4000000 in
set_option maxRecDepth 100000 in
theorem c_X1_isLater_no1 (l : Launch) (D : va_G) (cI cJ : ClassId) (q : Nat → Nat) (n : Nat) (mk lt tg : Nat → Int32) (pa an kn : Nat → Int64) (row : Nat → Int32) (len thr : Int32) (x : Int32) (y : Int32) (hI : Inv n lt tg an kn) (hbad : bad n x) : eg_MW D (tyL cI cJ) l yX1_isLater wsX1_isLater ({ frames := 2, cells := 0, slots := 0, locals := 43 }) 0 0 [.ref (q 0), .int x, .int y] (wM q cI cJ (nI n) mk lt tg pa an kn row len thr) (fun r w1 => ∃ (row' : Nat → Int32) (len' : Int32), r = some (.int (nI 0)) ∧ w1 = wM q cI cJ (nI n) mk lt tg pa an kn row' len' (nI 1)) := by
  refine Met.ofW (cc := cX1_isLater) (maxL := 3) (ret := (some .boolean)) (by decide) rfl ?_
  intro p e s m args below meth c s₁ B hml hv
  obtain ⟨rfl, hP, hK, hD0⟩ := hv
  have hx := B.exec
  have hb := B.bytes
  have hr := B.returns
  have hts := atoms_spec (ws := wsX1_isLater) B.pre
  have hown : s.vm.findClass RX1 = some m.cls := findClass_of_methodNamed B.named
  have hlocks := B.notSynchronized
  have hD := eg_D_of hD0
  have hS : va_S (eg_A (wM q cI cJ (nI n) mk lt tg pa an kn row len thr)) s.heap s.heap [] := va_S.rf
  have hin : ∀ w ∈ u_ws RX1 TX1 10, w ∈ wsX1_isLater := by decide +kernel
  have hl := lv_entry ([.ref (q 0), .int x, .int y]) (n := 3) (Nat.le_of_ble_eq_true rfl)
  rw [lg_entry_eq]
  generalize (lg_sl ([.ref (q 0), .int x, .int y]) ++ List.replicate (3 - (lg_sl ([.ref (q 0), .int x, .int y])).length) Slot.unset).toArray = ls at hl ⊢
  have hl : lv_has ls 3 [(0, .ref (q 0)), (1, .int x), (2, .int y)] := hl
  generalize h0H : s.heap = H at hP ⊢
  have hS : va_S (eg_A (wM q cI cJ (nI n) mk lt tg pa an kn row len thr)) s.heap H [] := by rw [← h0H]; exact hS
  generalize ([] : List Loc) = locs at hS ⊢
  refine lv_aload_n hx hb dX1_isLater_0 rfl (lv_at hl 0 rfl) ?_
  refine lv_aload_n hx hb dX1_isLater_1 rfl (lv_at hl 0 rfl) ?_
  refine lv_iload_n hx hb dX1_isLater_2 rfl (lv_at hl 1 rfl) ?_
  refine eg_callV (As := [.int x]) (rest := [.ref (q 0)]) hx hb hml hown hts hK hP (c_X1_isEvent l D cI cJ q n mk lt tg pa an kn row len thr x hI.1) (cwV 1 hts gX1_isLater_X1_isEvent rfl rfl rfl (by decide +kernel) ⟨Nat.le_of_ble_eq_true rfl, Nat.le_of_ble_eq_true rfl⟩) (va_recv hK hP (ci := 1) (q0 := 0) rfl rfl) rfl hl.1 rfl (Nat.le_of_ble_eq_true rfl) dX1_isLater_3 ⟨Nat.zero_le _, Nat.zero_le _⟩ ?_
  rw [show ev n x = false from bad_ev hbad]
  refine eg_ifeq_b (tgt := 21) hx hb dX1_isLater_6 (by decide) (fun _ => ?_) (fun h => Bool.noConfusion h)
  refine lv_iconst (v := nI 0) hx hb dX1_isLater_21 (by decide +kernel) ?_
  refine eg_callWV (As := [.int (eb false)]) (rest := []) hx hb hml hown hts hK hP hD rfl hS (c_X1_asked_f l D cI cJ q n mk lt tg pa an kn row len thr  ) (cwV 1 hts gX1_isLater_X1_asked rfl rfl rfl (by decide +kernel) ⟨Nat.le_of_ble_eq_true rfl, Nat.le_of_ble_eq_true rfl⟩) (va_recv hK hP (ci := 1) (q0 := 0) rfl rfl) rfl hl.1 rfl (Nat.le_of_ble_eq_true rfl) dX1_isLater_22 ⟨Nat.zero_le _, Nat.zero_le _⟩ (fun v9 w9 H locs hR9 hw9 hP hS => ?_)
  obtain ⟨rfl, rfl⟩ := hR9
  refine eg_ifeq_b (tgt := 45) hx hb dX1_isLater_25 (by decide) (fun _ => ?_) (fun h => Bool.noConfusion h)
  refine lv_iconst (v := nI 0) hx hb dX1_isLater_45 (by decide +kernel) ?_
  exact W.zret hx hb hr (by first | rfl | exact eb_nar) (fun t9 ht9 _ => ⟨some (.int (nI 0)), (wM q cI cJ (nI n) mk lt tg pa an kn row len (nI 1)), rfl, ⟨_, _, rfl, rfl⟩, rfl, by rw [ht9]; exact hP, hS.F ht9⟩) hS.2.2 dX1_isLater_46
set_option maxHeartbeats 4000000 in
set_option maxRecDepth 100000 in
theorem c_X1_isLater_no2 (l : Launch) (D : va_G) (cI cJ : ClassId) (q : Nat → Nat) (n : Nat) (mk lt tg : Nat → Int32) (pa an kn : Nat → Int64) (row : Nat → Int32) (len thr : Int32) (e0 : Nat) (y : Int32) (hI : Inv n lt tg an kn) (he : e0 < n) (hbad : bad n y) : eg_MW D (tyL cI cJ) l yX1_isLater wsX1_isLater ({ frames := 2, cells := 0, slots := 0, locals := 43 }) 0 0 [.ref (q 0), .int (nI e0), .int y] (wM q cI cJ (nI n) mk lt tg pa an kn row len thr) (fun r w1 => ∃ (row' : Nat → Int32) (len' : Int32), r = some (.int (nI 0)) ∧ w1 = wM q cI cJ (nI n) mk lt tg pa an kn row' len' (nI 1)) := by
  refine Met.ofW (cc := cX1_isLater) (maxL := 3) (ret := (some .boolean)) (by decide) rfl ?_
  intro p e s m args below meth c s₁ B hml hv
  obtain ⟨rfl, hP, hK, hD0⟩ := hv
  have hx := B.exec
  have hb := B.bytes
  have hr := B.returns
  have hts := atoms_spec (ws := wsX1_isLater) B.pre
  have hown : s.vm.findClass RX1 = some m.cls := findClass_of_methodNamed B.named
  have hlocks := B.notSynchronized
  have hD := eg_D_of hD0
  have hS : va_S (eg_A (wM q cI cJ (nI n) mk lt tg pa an kn row len thr)) s.heap s.heap [] := va_S.rf
  have hin : ∀ w ∈ u_ws RX1 TX1 10, w ∈ wsX1_isLater := by decide +kernel
  have hl := lv_entry ([.ref (q 0), .int (nI e0), .int y]) (n := 3) (Nat.le_of_ble_eq_true rfl)
  rw [lg_entry_eq]
  generalize (lg_sl ([.ref (q 0), .int (nI e0), .int y]) ++ List.replicate (3 - (lg_sl ([.ref (q 0), .int (nI e0), .int y])).length) Slot.unset).toArray = ls at hl ⊢
  have hl : lv_has ls 3 [(0, .ref (q 0)), (1, .int (nI e0)), (2, .int y)] := hl
  generalize h0H : s.heap = H at hP ⊢
  have hS : va_S (eg_A (wM q cI cJ (nI n) mk lt tg pa an kn row len thr)) s.heap H [] := by rw [← h0H]; exact hS
  generalize ([] : List Loc) = locs at hS ⊢
  refine lv_aload_n hx hb dX1_isLater_0 rfl (lv_at hl 0 rfl) ?_
  refine lv_aload_n hx hb dX1_isLater_1 rfl (lv_at hl 0 rfl) ?_
  refine lv_iload_n hx hb dX1_isLater_2 rfl (lv_at hl 1 rfl) ?_
  refine eg_callV (As := [.int (nI e0)]) (rest := [.ref (q 0)]) hx hb hml hown hts hK hP (c_X1_isEvent l D cI cJ q n mk lt tg pa an kn row len thr (nI e0) hI.1) (cwV 1 hts gX1_isLater_X1_isEvent rfl rfl rfl (by decide +kernel) ⟨Nat.le_of_ble_eq_true rfl, Nat.le_of_ble_eq_true rfl⟩) (va_recv hK hP (ci := 1) (q0 := 0) rfl rfl) rfl hl.1 rfl (Nat.le_of_ble_eq_true rfl) dX1_isLater_3 ⟨Nat.zero_le _, Nat.zero_le _⟩ ?_
  rw [show ev n (nI e0) = true from ev_nI (by have := hI.1; omega) he]
  refine eg_ifeq_b (tgt := 21) hx hb dX1_isLater_6 (by decide) (fun h => Bool.noConfusion h) (fun _ => ?_)
  refine lv_aload_n hx hb dX1_isLater_9 rfl (lv_at hl 0 rfl) ?_
  refine lv_iload_n hx hb dX1_isLater_10 rfl (lv_at hl 2 rfl) ?_
  refine eg_callV (As := [.int y]) (rest := [.ref (q 0)]) hx hb hml hown hts hK hP (c_X1_isEvent l D cI cJ q n mk lt tg pa an kn row len thr y hI.1) (cwV 1 hts gX1_isLater_X1_isEvent rfl rfl rfl (by decide +kernel) ⟨Nat.le_of_ble_eq_true rfl, Nat.le_of_ble_eq_true rfl⟩) (va_recv hK hP (ci := 1) (q0 := 0) rfl rfl) rfl hl.1 rfl (Nat.le_of_ble_eq_true rfl) dX1_isLater_11 ⟨Nat.zero_le _, Nat.zero_le _⟩ ?_
  rw [show ev n y = false from bad_ev hbad]
  refine eg_ifeq_b (tgt := 21) hx hb dX1_isLater_14 (by decide) (fun _ => ?_) (fun h => Bool.noConfusion h)
  refine lv_iconst (v := nI 0) hx hb dX1_isLater_21 (by decide +kernel) ?_
  refine eg_callWV (As := [.int (eb false)]) (rest := []) hx hb hml hown hts hK hP hD rfl hS (c_X1_asked_f l D cI cJ q n mk lt tg pa an kn row len thr  ) (cwV 1 hts gX1_isLater_X1_asked rfl rfl rfl (by decide +kernel) ⟨Nat.le_of_ble_eq_true rfl, Nat.le_of_ble_eq_true rfl⟩) (va_recv hK hP (ci := 1) (q0 := 0) rfl rfl) rfl hl.1 rfl (Nat.le_of_ble_eq_true rfl) dX1_isLater_22 ⟨Nat.zero_le _, Nat.zero_le _⟩ (fun v9 w9 H locs hR9 hw9 hP hS => ?_)
  obtain ⟨rfl, rfl⟩ := hR9
  refine eg_ifeq_b (tgt := 45) hx hb dX1_isLater_25 (by decide) (fun _ => ?_) (fun h => Bool.noConfusion h)
  refine lv_iconst (v := nI 0) hx hb dX1_isLater_45 (by decide +kernel) ?_
  exact W.zret hx hb hr (by first | rfl | exact eb_nar) (fun t9 ht9 _ => ⟨some (.int (nI 0)), (wM q cI cJ (nI n) mk lt tg pa an kn row len (nI 1)), rfl, ⟨_, _, rfl, rfl⟩, rfl, by rw [ht9]; exact hP, hS.F ht9⟩) hS.2.2 dX1_isLater_46
set_option maxHeartbeats 4000000 in
set_option maxRecDepth 100000 in
theorem c_X1_version (l : Launch) (D : va_G) (cI cJ : ClassId) (q : Nat → Nat) (n : Nat) (mk lt tg : Nat → Int32) (pa an kn : Nat → Int64) (row : Nat → Int32) (len thr : Int32) (a : Nat) (ha : a < 4) : eg_MW D (tyL cI cJ) l yX1_version wsX1_version ({ frames := 2, cells := 0, slots := 0, locals := 42 }) 0 0 [.ref (q 0), .int (nI a)] (wM q cI cJ (nI n) mk lt tg pa an kn row len thr) (fun r w1 => r = some (.long (kn a)) ∧ w1 = wM q cI cJ (nI n) mk lt tg pa an kn row len (nI 0)) := by
  refine Met.ofW (cc := cX1_version) (maxL := 2) (ret := (some .long)) (by decide) rfl ?_
  intro p e s m args below meth c s₁ B hml hv
  obtain ⟨rfl, hP, hK, hD0⟩ := hv
  have hx := B.exec
  have hb := B.bytes
  have hr := B.returns
  have hts := atoms_spec (ws := wsX1_version) B.pre
  have hown : s.vm.findClass RX1 = some m.cls := findClass_of_methodNamed B.named
  have hlocks := B.notSynchronized
  have hD := eg_D_of hD0
  have hS : va_S (eg_A (wM q cI cJ (nI n) mk lt tg pa an kn row len thr)) s.heap s.heap [] := va_S.rf
  have hin : ∀ w ∈ u_ws RX1 TX1 10, w ∈ wsX1_version := by decide +kernel
  have hl := lv_entry ([.ref (q 0), .int (nI a)]) (n := 2) (Nat.le_of_ble_eq_true rfl)
  rw [lg_entry_eq]
  generalize (lg_sl ([.ref (q 0), .int (nI a)]) ++ List.replicate (2 - (lg_sl ([.ref (q 0), .int (nI a)])).length) Slot.unset).toArray = ls at hl ⊢
  have hl : lv_has ls 2 [(0, .ref (q 0)), (1, .int (nI a))] := hl
  generalize h0H : s.heap = H at hP ⊢
  have hS : va_S (eg_A (wM q cI cJ (nI n) mk lt tg pa an kn row len thr)) s.heap H [] := by rw [← h0H]; exact hS
  generalize ([] : List Loc) = locs at hS ⊢
  refine lv_aload_n hx hb dX1_version_0 rfl (lv_at hl 0 rfl) ?_
  refine lv_iload_n hx hb dX1_version_1 rfl (lv_at hl 1 rfl) ?_
  refine eg_callS (As := [.int (nI a)]) (rest := [.ref (q 0)]) hx hb hml hown hts hK (c_X1_isAuthor l D cI cJ (nI a) ) (va_cwS 1 hts gX1_version_X1_isAuthor rfl rfl rfl (by decide +kernel) ⟨Nat.le_of_ble_eq_true rfl, Nat.le_of_ble_eq_true rfl⟩) rfl hl.1 rfl (Nat.le_of_ble_eq_true rfl) dX1_version_2 ⟨Nat.zero_le _, Nat.zero_le _⟩ ?_
  rw [show ev 4 (nI a) = true from ev_nI (by decide) ha]
  refine eg_callWV (As := [.int (eb true)]) (rest := []) hx hb hml hown hts hK hP hD rfl hS (c_X1_asked_t l D cI cJ q n mk lt tg pa an kn row len thr  ) (cwV 1 hts gX1_version_X1_asked rfl rfl rfl (by decide +kernel) ⟨Nat.le_of_ble_eq_true rfl, Nat.le_of_ble_eq_true rfl⟩) (va_recv hK hP (ci := 1) (q0 := 0) rfl rfl) rfl hl.1 rfl (Nat.le_of_ble_eq_true rfl) dX1_version_5 ⟨Nat.zero_le _, Nat.zero_le _⟩ (fun v9 w9 H locs hR9 hw9 hP hS => ?_)
  obtain ⟨rfl, rfl⟩ := hR9
  refine eg_ifeq_b (tgt := 20) hx hb dX1_version_8 (by decide) (fun h => Bool.noConfusion h) (fun _ => ?_)
  refine lv_aload_n hx hb dX1_version_11 rfl (lv_at hl 0 rfl) ?_
  refine va_get (D := D) (ci := 1) (v := .ref (q 6)) (C := RX1) (T := TX1) (N := 10) hx hb hts hin hown hK hP 0 rfl rfl 6 (by decide) (hts (.fieldLink RX1 26 "EditGraphModel" "knows" "[J") (by decide +kernel)) (fun _ h9 => h9) rfl dX1_version_12 ?_
  refine lv_iload_n hx hb dX1_version_15 rfl (lv_at hl 1 rfl) ?_
  refine eg_lald hx hb hK hP 6 1 rfl rfl (by omega) (by decide) dX1_version_16 ?_
  refine lv_goto (tgt := 21) hx hb dX1_version_17 (by decide) ?_
  exact W.lret hx hb hr (fun t9 ht9 _ => ⟨some (.long (kn a)), (wM q cI cJ (nI n) mk lt tg pa an kn row len (nI 0)), rfl, ⟨rfl, rfl⟩, rfl, by rw [ht9]; exact hP, hS.F ht9⟩) hS.2.2 dX1_version_21
set_option maxHeartbeats 4000000 in
set_option maxRecDepth 100000 in
theorem c_X1_heads (l : Launch) (D : va_G) (cI cJ : ClassId) (q : Nat → Nat) (n : Nat) (mk lt tg : Nat → Int32) (pa an kn : Nat → Int64) (row : Nat → Int32) (len thr : Int32) (a : Nat) (hI : Inv n lt tg an kn) (ha : a < 4) : eg_MW D (tyL cI cJ) l yX1_heads wsX1_heads ({ frames := 2, cells := 0, slots := 0, locals := 47 }) 0 0 [.ref (q 0), .int (nI a)] (wM q cI cJ (nI n) mk lt tg pa an kn row len thr) (fun r w1 => r = some (.long (hdX pa (kn a) n)) ∧ w1 = wM q cI cJ (nI n) mk lt tg pa an kn row len (nI 0)) := by
  refine Met.ofW (cc := cX1_heads) (maxL := 2) (ret := (some .long)) (by decide) rfl ?_
  intro p e s m args below meth c s₁ B hml hv
  obtain ⟨rfl, hP, hK, hD0⟩ := hv
  have hx := B.exec
  have hb := B.bytes
  have hr := B.returns
  have hts := atoms_spec (ws := wsX1_heads) B.pre
  have hown : s.vm.findClass RX1 = some m.cls := findClass_of_methodNamed B.named
  have hlocks := B.notSynchronized
  have hD := eg_D_of hD0
  have hS : va_S (eg_A (wM q cI cJ (nI n) mk lt tg pa an kn row len thr)) s.heap s.heap [] := va_S.rf
  have hin : ∀ w ∈ u_ws RX1 TX1 10, w ∈ wsX1_heads := by decide +kernel
  have hl := lv_entry ([.ref (q 0), .int (nI a)]) (n := 2) (Nat.le_of_ble_eq_true rfl)
  rw [lg_entry_eq]
  generalize (lg_sl ([.ref (q 0), .int (nI a)]) ++ List.replicate (2 - (lg_sl ([.ref (q 0), .int (nI a)])).length) Slot.unset).toArray = ls at hl ⊢
  have hl : lv_has ls 2 [(0, .ref (q 0)), (1, .int (nI a))] := hl
  generalize h0H : s.heap = H at hP ⊢
  have hS : va_S (eg_A (wM q cI cJ (nI n) mk lt tg pa an kn row len thr)) s.heap H [] := by rw [← h0H]; exact hS
  generalize ([] : List Loc) = locs at hS ⊢
  refine lv_aload_n hx hb dX1_heads_0 rfl (lv_at hl 0 rfl) ?_
  refine lv_iload_n hx hb dX1_heads_1 rfl (lv_at hl 1 rfl) ?_
  refine eg_callS (As := [.int (nI a)]) (rest := [.ref (q 0)]) hx hb hml hown hts hK (c_X1_isAuthor l D cI cJ (nI a) ) (va_cwS 1 hts gX1_heads_X1_isAuthor rfl rfl rfl (by decide +kernel) ⟨Nat.le_of_ble_eq_true rfl, Nat.le_of_ble_eq_true rfl⟩) rfl hl.1 rfl (Nat.le_of_ble_eq_true rfl) dX1_heads_2 ⟨Nat.zero_le _, Nat.zero_le _⟩ ?_
  rw [show ev 4 (nI a) = true from ev_nI (by decide) ha]
  refine eg_callWV (As := [.int (eb true)]) (rest := []) hx hb hml hown hts hK hP hD rfl hS (c_X1_asked_t l D cI cJ q n mk lt tg pa an kn row len thr  ) (cwV 1 hts gX1_heads_X1_asked rfl rfl rfl (by decide +kernel) ⟨Nat.le_of_ble_eq_true rfl, Nat.le_of_ble_eq_true rfl⟩) (va_recv hK hP (ci := 1) (q0 := 0) rfl rfl) rfl hl.1 rfl (Nat.le_of_ble_eq_true rfl) dX1_heads_5 ⟨Nat.zero_le _, Nat.zero_le _⟩ (fun v9 w9 H locs hR9 hw9 hP hS => ?_)
  obtain ⟨rfl, rfl⟩ := hR9
  refine eg_ifeq_b (tgt := 24) hx hb dX1_heads_8 (by decide) (fun h => Bool.noConfusion h) (fun _ => ?_)
  refine lv_aload_n hx hb dX1_heads_11 rfl (lv_at hl 0 rfl) ?_
  refine lv_aload_n hx hb dX1_heads_12 rfl (lv_at hl 0 rfl) ?_
  refine va_get (D := D) (ci := 1) (v := .ref (q 6)) (C := RX1) (T := TX1) (N := 10) hx hb hts hin hown hK hP 0 rfl rfl 6 (by decide) (hts (.fieldLink RX1 26 "EditGraphModel" "knows" "[J") (by decide +kernel)) (fun _ h9 => h9) rfl dX1_heads_13 ?_
  refine lv_iload_n hx hb dX1_heads_16 rfl (lv_at hl 1 rfl) ?_
  refine eg_lald hx hb hK hP 6 1 rfl rfl (by omega) (by decide) dX1_heads_17 ?_
  refine eg_callV (As := [.long (kn a)]) (rest := []) hx hb hml hown hts hK hP (c_X1_headsOf l D cI cJ q n mk lt tg pa an kn row len (nI 0) (kn a) hI.1) (cwV 1 hts gX1_heads_X1_headsOf rfl rfl rfl (by decide +kernel) ⟨Nat.le_of_ble_eq_true rfl, Nat.le_of_ble_eq_true rfl⟩) (va_recv hK hP (ci := 1) (q0 := 0) rfl rfl) rfl hl.1 rfl (Nat.le_of_ble_eq_true rfl) dX1_heads_18 ⟨Nat.zero_le _, Nat.zero_le _⟩ ?_
  refine lv_goto (tgt := 25) hx hb dX1_heads_21 (by decide) ?_
  exact W.lret hx hb hr (fun t9 ht9 _ => ⟨some (.long (hdX pa (kn a) n)), (wM q cI cJ (nI n) mk lt tg pa an kn row len (nI 0)), rfl, ⟨rfl, rfl⟩, rfl, by rw [ht9]; exact hP, hS.F ht9⟩) hS.2.2 dX1_heads_25
set_option maxHeartbeats 4000000 in
set_option maxRecDepth 100000 in
theorem c_X1_commonHeads (l : Launch) (D : va_G) (cI cJ : ClassId) (q : Nat → Nat) (n : Nat) (mk lt tg : Nat → Int32) (pa an kn : Nat → Int64) (row : Nat → Int32) (len thr : Int32) (a : Nat) (b : Nat) (hI : Inv n lt tg an kn) (ha : a < 4) (hb4 : b < 4) : eg_MW D (tyL cI cJ) l yX1_commonHeads wsX1_commonHeads ({ frames := 2, cells := 0, slots := 0, locals := 47 }) 0 0 [.ref (q 0), .int (nI a), .int (nI b)] (wM q cI cJ (nI n) mk lt tg pa an kn row len thr) (fun r w1 => r = some (.long (hdX pa (kn a &&& kn b) n)) ∧ w1 = wM q cI cJ (nI n) mk lt tg pa an kn row len (nI 0)) := by
  refine Met.ofW (cc := cX1_commonHeads) (maxL := 3) (ret := (some .long)) (by decide) rfl ?_
  intro p e s m args below meth c s₁ B hml hv
  obtain ⟨rfl, hP, hK, hD0⟩ := hv
  have hx := B.exec
  have hb := B.bytes
  have hr := B.returns
  have hts := atoms_spec (ws := wsX1_commonHeads) B.pre
  have hown : s.vm.findClass RX1 = some m.cls := findClass_of_methodNamed B.named
  have hlocks := B.notSynchronized
  have hD := eg_D_of hD0
  have hS : va_S (eg_A (wM q cI cJ (nI n) mk lt tg pa an kn row len thr)) s.heap s.heap [] := va_S.rf
  have hin : ∀ w ∈ u_ws RX1 TX1 10, w ∈ wsX1_commonHeads := by decide +kernel
  have hl := lv_entry ([.ref (q 0), .int (nI a), .int (nI b)]) (n := 3) (Nat.le_of_ble_eq_true rfl)
  rw [lg_entry_eq]
  generalize (lg_sl ([.ref (q 0), .int (nI a), .int (nI b)]) ++ List.replicate (3 - (lg_sl ([.ref (q 0), .int (nI a), .int (nI b)])).length) Slot.unset).toArray = ls at hl ⊢
  have hl : lv_has ls 3 [(0, .ref (q 0)), (1, .int (nI a)), (2, .int (nI b))] := hl
  generalize h0H : s.heap = H at hP ⊢
  have hS : va_S (eg_A (wM q cI cJ (nI n) mk lt tg pa an kn row len thr)) s.heap H [] := by rw [← h0H]; exact hS
  generalize ([] : List Loc) = locs at hS ⊢
  refine lv_aload_n hx hb dX1_commonHeads_0 rfl (lv_at hl 0 rfl) ?_
  refine lv_iload_n hx hb dX1_commonHeads_1 rfl (lv_at hl 1 rfl) ?_
  refine eg_callS (As := [.int (nI a)]) (rest := [.ref (q 0)]) hx hb hml hown hts hK (c_X1_isAuthor l D cI cJ (nI a) ) (va_cwS 1 hts gX1_commonHeads_X1_isAuthor rfl rfl rfl (by decide +kernel) ⟨Nat.le_of_ble_eq_true rfl, Nat.le_of_ble_eq_true rfl⟩) rfl hl.1 rfl (Nat.le_of_ble_eq_true rfl) dX1_commonHeads_2 ⟨Nat.zero_le _, Nat.zero_le _⟩ ?_
  rw [show ev 4 (nI a) = true from ev_nI (by decide) ha]
  refine eg_ifeq_b (tgt := 19) hx hb dX1_commonHeads_5 (by decide) (fun h => Bool.noConfusion h) (fun _ => ?_)
  refine lv_iload_n hx hb dX1_commonHeads_8 rfl (lv_at hl 2 rfl) ?_
  refine eg_callS (As := [.int (nI b)]) (rest := [.ref (q 0)]) hx hb hml hown hts hK (c_X1_isAuthor l D cI cJ (nI b) ) (va_cwS 1 hts gX1_commonHeads_X1_isAuthor rfl rfl rfl (by decide +kernel) ⟨Nat.le_of_ble_eq_true rfl, Nat.le_of_ble_eq_true rfl⟩) rfl hl.1 rfl (Nat.le_of_ble_eq_true rfl) dX1_commonHeads_9 ⟨Nat.zero_le _, Nat.zero_le _⟩ ?_
  rw [show ev 4 (nI b) = true from ev_nI (by decide) hb4]
  refine eg_ifeq_b (tgt := 19) hx hb dX1_commonHeads_12 (by decide) (fun h => Bool.noConfusion h) (fun _ => ?_)
  refine lv_iconst (v := nI 1) hx hb dX1_commonHeads_15 (by decide +kernel) ?_
  refine lv_goto (tgt := 20) hx hb dX1_commonHeads_16 (by decide) ?_
  refine eg_callWV (As := [.int (eb true)]) (rest := []) hx hb hml hown hts hK hP hD rfl hS (c_X1_asked_t l D cI cJ q n mk lt tg pa an kn row len thr  ) (cwV 1 hts gX1_commonHeads_X1_asked rfl rfl rfl (by decide +kernel) ⟨Nat.le_of_ble_eq_true rfl, Nat.le_of_ble_eq_true rfl⟩) (va_recv hK hP (ci := 1) (q0 := 0) rfl rfl) rfl hl.1 rfl (Nat.le_of_ble_eq_true rfl) dX1_commonHeads_20 ⟨Nat.zero_le _, Nat.zero_le _⟩ (fun v9 w9 H locs hR9 hw9 hP hS => ?_)
  obtain ⟨rfl, rfl⟩ := hR9
  refine eg_ifeq_b (tgt := 46) hx hb dX1_commonHeads_23 (by decide) (fun h => Bool.noConfusion h) (fun _ => ?_)
  refine lv_aload_n hx hb dX1_commonHeads_26 rfl (lv_at hl 0 rfl) ?_
  refine lv_aload_n hx hb dX1_commonHeads_27 rfl (lv_at hl 0 rfl) ?_
  refine va_get (D := D) (ci := 1) (v := .ref (q 6)) (C := RX1) (T := TX1) (N := 10) hx hb hts hin hown hK hP 0 rfl rfl 6 (by decide) (hts (.fieldLink RX1 26 "EditGraphModel" "knows" "[J") (by decide +kernel)) (fun _ h9 => h9) rfl dX1_commonHeads_28 ?_
  refine lv_iload_n hx hb dX1_commonHeads_31 rfl (lv_at hl 1 rfl) ?_
  refine eg_lald hx hb hK hP 6 1 rfl rfl (by omega) (by decide) dX1_commonHeads_32 ?_
  refine lv_aload_n hx hb dX1_commonHeads_33 rfl (lv_at hl 0 rfl) ?_
  refine va_get (D := D) (ci := 1) (v := .ref (q 6)) (C := RX1) (T := TX1) (N := 10) hx hb hts hin hown hK hP 0 rfl rfl 6 (by decide) (hts (.fieldLink RX1 26 "EditGraphModel" "knows" "[J") (by decide +kernel)) (fun _ h9 => h9) rfl dX1_commonHeads_34 ?_
  refine lv_iload_n hx hb dX1_commonHeads_37 rfl (lv_at hl 2 rfl) ?_
  refine eg_lald hx hb hK hP 6 1 rfl rfl (by omega) (by decide) dX1_commonHeads_38 ?_
  refine lv_land hx hb dX1_commonHeads_39 ?_
  refine eg_callV (As := [.long ((kn a) &&& (kn b))]) (rest := []) hx hb hml hown hts hK hP (c_X1_headsOf l D cI cJ q n mk lt tg pa an kn row len (nI 0) ((kn a) &&& (kn b)) hI.1) (cwV 1 hts gX1_commonHeads_X1_headsOf rfl rfl rfl (by decide +kernel) ⟨Nat.le_of_ble_eq_true rfl, Nat.le_of_ble_eq_true rfl⟩) (va_recv hK hP (ci := 1) (q0 := 0) rfl rfl) rfl hl.1 rfl (Nat.le_of_ble_eq_true rfl) dX1_commonHeads_40 ⟨Nat.zero_le _, Nat.zero_le _⟩ ?_
  refine lv_goto (tgt := 47) hx hb dX1_commonHeads_43 (by decide) ?_
  exact W.lret hx hb hr (fun t9 ht9 _ => ⟨some (.long (hdX pa ((kn a) &&& (kn b)) n)), (wM q cI cJ (nI n) mk lt tg pa an kn row len (nI 0)), rfl, ⟨rfl, rfl⟩, rfl, by rw [ht9]; exact hP, hS.F ht9⟩) hS.2.2 dX1_commonHeads_47
set_option maxHeartbeats 4000000 in
set_option maxRecDepth 100000 in
theorem c_X1_critical (l : Launch) (D : va_G) (cI cJ : ClassId) (q : Nat → Nat) (n : Nat) (mk lt tg : Nat → Int32) (pa an kn : Nat → Int64) (row : Nat → Int32) (len thr : Int32) (a : Nat) (hI : Inv n lt tg an kn) (ha : a < 4) : eg_MW D (tyL cI cJ) l yX1_critical wsX1_critical ({ frames := 3, cells := 0, slots := 0, locals := 70 }) 0 0 [.ref (q 0), .int (nI a)] (wM q cI cJ (nI n) mk lt tg pa an kn row len thr) (fun r w1 => r = some (.long (crM an (kn a) n n)) ∧ w1 = wM q cI cJ (nI n) mk lt tg pa an kn row len (nI 0)) := by
  refine Met.ofW (cc := cX1_critical) (maxL := 2) (ret := (some .long)) (by decide) rfl ?_
  intro p e s m args below meth c s₁ B hml hv
  obtain ⟨rfl, hP, hK, hD0⟩ := hv
  have hx := B.exec
  have hb := B.bytes
  have hr := B.returns
  have hts := atoms_spec (ws := wsX1_critical) B.pre
  have hown : s.vm.findClass RX1 = some m.cls := findClass_of_methodNamed B.named
  have hlocks := B.notSynchronized
  have hD := eg_D_of hD0
  have hS : va_S (eg_A (wM q cI cJ (nI n) mk lt tg pa an kn row len thr)) s.heap s.heap [] := va_S.rf
  have hl := lv_entry ([.ref (q 0), .int (nI a)]) (n := 2) (Nat.le_of_ble_eq_true rfl)
  rw [lg_entry_eq]
  generalize (lg_sl ([.ref (q 0), .int (nI a)]) ++ List.replicate (2 - (lg_sl ([.ref (q 0), .int (nI a)])).length) Slot.unset).toArray = ls at hl ⊢
  have hl : lv_has ls 2 [(0, .ref (q 0)), (1, .int (nI a))] := hl
  generalize h0H : s.heap = H at hP ⊢
  have hS : va_S (eg_A (wM q cI cJ (nI n) mk lt tg pa an kn row len thr)) s.heap H [] := by rw [← h0H]; exact hS
  generalize ([] : List Loc) = locs at hS ⊢
  refine lv_aload_n hx hb dX1_critical_0 rfl (lv_at hl 0 rfl) ?_
  refine lv_iload_n hx hb dX1_critical_1 rfl (lv_at hl 1 rfl) ?_
  refine eg_callS (As := [.int (nI a)]) (rest := [.ref (q 0)]) hx hb hml hown hts hK (c_X1_isAuthor l D cI cJ (nI a) ) (va_cwS 1 hts gX1_critical_X1_isAuthor rfl rfl rfl (by decide +kernel) ⟨Nat.le_of_ble_eq_true rfl, Nat.le_of_ble_eq_true rfl⟩) rfl hl.1 rfl (Nat.le_of_ble_eq_true rfl) dX1_critical_2 ⟨Nat.zero_le _, Nat.zero_le _⟩ ?_
  rw [show ev 4 (nI a) = true from ev_nI (by decide) ha]
  refine eg_callWV (As := [.int (eb true)]) (rest := []) hx hb hml hown hts hK hP hD rfl hS (c_X1_asked_t l D cI cJ q n mk lt tg pa an kn row len thr  ) (cwV 1 hts gX1_critical_X1_asked rfl rfl rfl (by decide +kernel) ⟨Nat.le_of_ble_eq_true rfl, Nat.le_of_ble_eq_true rfl⟩) (va_recv hK hP (ci := 1) (q0 := 0) rfl rfl) rfl hl.1 rfl (Nat.le_of_ble_eq_true rfl) dX1_critical_5 ⟨Nat.zero_le _, Nat.zero_le _⟩ (fun v9 w9 H locs hR9 hw9 hP hS => ?_)
  obtain ⟨rfl, rfl⟩ := hR9
  refine eg_ifeq_b (tgt := 19) hx hb dX1_critical_8 (by decide) (fun h => Bool.noConfusion h) (fun _ => ?_)
  refine lv_aload_n hx hb dX1_critical_11 rfl (lv_at hl 0 rfl) ?_
  refine lv_iload_n hx hb dX1_critical_12 rfl (lv_at hl 1 rfl) ?_
  refine eg_callV (As := [.int (nI a)]) (rest := []) hx hb hml hown hts hK hP (c_X1_criticals l D cI cJ q n mk lt tg pa an kn row len (nI 0) a hI ha) (cwV 1 hts gX1_critical_X1_criticals rfl rfl rfl (by decide +kernel) ⟨Nat.le_of_ble_eq_true rfl, Nat.le_of_ble_eq_true rfl⟩) (va_recv hK hP (ci := 1) (q0 := 0) rfl rfl) rfl hl.1 rfl (Nat.le_of_ble_eq_true rfl) dX1_critical_13 ⟨Nat.zero_le _, Nat.zero_le _⟩ ?_
  refine lv_goto (tgt := 20) hx hb dX1_critical_16 (by decide) ?_
  exact W.lret hx hb hr (fun t9 ht9 _ => ⟨some (.long (crM an (kn a) n n)), (wM q cI cJ (nI n) mk lt tg pa an kn row len (nI 0)), rfl, ⟨rfl, rfl⟩, rfl, by rw [ht9]; exact hP, hS.F ht9⟩) hS.2.2 dX1_critical_20
set_option maxHeartbeats 4000000 in
set_option maxRecDepth 100000 in
theorem c_X1_version_no1 (l : Launch) (D : va_G) (cI cJ : ClassId) (q : Nat → Nat) (n : Nat) (mk lt tg : Nat → Int32) (pa an kn : Nat → Int64) (row : Nat → Int32) (len thr : Int32) (x : Int32) (hbad : bad 4 x) : eg_MW D (tyL cI cJ) l yX1_version wsX1_version ({ frames := 2, cells := 0, slots := 0, locals := 42 }) 0 0 [.ref (q 0), .int x] (wM q cI cJ (nI n) mk lt tg pa an kn row len thr) (fun r w1 => ∃ (row' : Nat → Int32) (len' : Int32), r = some (.long 0) ∧ w1 = wM q cI cJ (nI n) mk lt tg pa an kn row' len' (nI 1)) := by
  refine Met.ofW (cc := cX1_version) (maxL := 2) (ret := (some .long)) (by decide) rfl ?_
  intro p e s m args below meth c s₁ B hml hv
  obtain ⟨rfl, hP, hK, hD0⟩ := hv
  have hx := B.exec
  have hb := B.bytes
  have hr := B.returns
  have hts := atoms_spec (ws := wsX1_version) B.pre
  have hown : s.vm.findClass RX1 = some m.cls := findClass_of_methodNamed B.named
  have hlocks := B.notSynchronized
  have hD := eg_D_of hD0
  have hS : va_S (eg_A (wM q cI cJ (nI n) mk lt tg pa an kn row len thr)) s.heap s.heap [] := va_S.rf
  have hin : ∀ w ∈ u_ws RX1 TX1 10, w ∈ wsX1_version := by decide +kernel
  have hl := lv_entry ([.ref (q 0), .int x]) (n := 2) (Nat.le_of_ble_eq_true rfl)
  rw [lg_entry_eq]
  generalize (lg_sl ([.ref (q 0), .int x]) ++ List.replicate (2 - (lg_sl ([.ref (q 0), .int x])).length) Slot.unset).toArray = ls at hl ⊢
  have hl : lv_has ls 2 [(0, .ref (q 0)), (1, .int x)] := hl
  generalize h0H : s.heap = H at hP ⊢
  have hS : va_S (eg_A (wM q cI cJ (nI n) mk lt tg pa an kn row len thr)) s.heap H [] := by rw [← h0H]; exact hS
  generalize ([] : List Loc) = locs at hS ⊢
  refine lv_aload_n hx hb dX1_version_0 rfl (lv_at hl 0 rfl) ?_
  refine lv_iload_n hx hb dX1_version_1 rfl (lv_at hl 1 rfl) ?_
  refine eg_callS (As := [.int x]) (rest := [.ref (q 0)]) hx hb hml hown hts hK (c_X1_isAuthor l D cI cJ x ) (va_cwS 1 hts gX1_version_X1_isAuthor rfl rfl rfl (by decide +kernel) ⟨Nat.le_of_ble_eq_true rfl, Nat.le_of_ble_eq_true rfl⟩) rfl hl.1 rfl (Nat.le_of_ble_eq_true rfl) dX1_version_2 ⟨Nat.zero_le _, Nat.zero_le _⟩ ?_
  rw [show ev 4 x = false from bad_ev hbad]
  refine eg_callWV (As := [.int (eb false)]) (rest := []) hx hb hml hown hts hK hP hD rfl hS (c_X1_asked_f l D cI cJ q n mk lt tg pa an kn row len thr  ) (cwV 1 hts gX1_version_X1_asked rfl rfl rfl (by decide +kernel) ⟨Nat.le_of_ble_eq_true rfl, Nat.le_of_ble_eq_true rfl⟩) (va_recv hK hP (ci := 1) (q0 := 0) rfl rfl) rfl hl.1 rfl (Nat.le_of_ble_eq_true rfl) dX1_version_5 ⟨Nat.zero_le _, Nat.zero_le _⟩ (fun v9 w9 H locs hR9 hw9 hP hS => ?_)
  obtain ⟨rfl, rfl⟩ := hR9
  refine eg_ifeq_b (tgt := 20) hx hb dX1_version_8 (by decide) (fun _ => ?_) (fun h => Bool.noConfusion h)
  refine lv_lconst (v := 0) hx hb dX1_version_20 (by decide) ?_
  exact W.lret hx hb hr (fun t9 ht9 _ => ⟨some (.long 0), (wM q cI cJ (nI n) mk lt tg pa an kn row len (nI 1)), rfl, ⟨_, _, rfl, rfl⟩, rfl, by rw [ht9]; exact hP, hS.F ht9⟩) hS.2.2 dX1_version_21
set_option maxHeartbeats 4000000 in
set_option maxRecDepth 100000 in
theorem c_X1_heads_no1 (l : Launch) (D : va_G) (cI cJ : ClassId) (q : Nat → Nat) (n : Nat) (mk lt tg : Nat → Int32) (pa an kn : Nat → Int64) (row : Nat → Int32) (len thr : Int32) (x : Int32) (hbad : bad 4 x) : eg_MW D (tyL cI cJ) l yX1_heads wsX1_heads ({ frames := 2, cells := 0, slots := 0, locals := 42 }) 0 0 [.ref (q 0), .int x] (wM q cI cJ (nI n) mk lt tg pa an kn row len thr) (fun r w1 => ∃ (row' : Nat → Int32) (len' : Int32), r = some (.long 0) ∧ w1 = wM q cI cJ (nI n) mk lt tg pa an kn row' len' (nI 1)) := by
  refine Met.ofW (cc := cX1_heads) (maxL := 2) (ret := (some .long)) (by decide) rfl ?_
  intro p e s m args below meth c s₁ B hml hv
  obtain ⟨rfl, hP, hK, hD0⟩ := hv
  have hx := B.exec
  have hb := B.bytes
  have hr := B.returns
  have hts := atoms_spec (ws := wsX1_heads) B.pre
  have hown : s.vm.findClass RX1 = some m.cls := findClass_of_methodNamed B.named
  have hlocks := B.notSynchronized
  have hD := eg_D_of hD0
  have hS : va_S (eg_A (wM q cI cJ (nI n) mk lt tg pa an kn row len thr)) s.heap s.heap [] := va_S.rf
  have hin : ∀ w ∈ u_ws RX1 TX1 10, w ∈ wsX1_heads := by decide +kernel
  have hl := lv_entry ([.ref (q 0), .int x]) (n := 2) (Nat.le_of_ble_eq_true rfl)
  rw [lg_entry_eq]
  generalize (lg_sl ([.ref (q 0), .int x]) ++ List.replicate (2 - (lg_sl ([.ref (q 0), .int x])).length) Slot.unset).toArray = ls at hl ⊢
  have hl : lv_has ls 2 [(0, .ref (q 0)), (1, .int x)] := hl
  generalize h0H : s.heap = H at hP ⊢
  have hS : va_S (eg_A (wM q cI cJ (nI n) mk lt tg pa an kn row len thr)) s.heap H [] := by rw [← h0H]; exact hS
  generalize ([] : List Loc) = locs at hS ⊢
  refine lv_aload_n hx hb dX1_heads_0 rfl (lv_at hl 0 rfl) ?_
  refine lv_iload_n hx hb dX1_heads_1 rfl (lv_at hl 1 rfl) ?_
  refine eg_callS (As := [.int x]) (rest := [.ref (q 0)]) hx hb hml hown hts hK (c_X1_isAuthor l D cI cJ x ) (va_cwS 1 hts gX1_heads_X1_isAuthor rfl rfl rfl (by decide +kernel) ⟨Nat.le_of_ble_eq_true rfl, Nat.le_of_ble_eq_true rfl⟩) rfl hl.1 rfl (Nat.le_of_ble_eq_true rfl) dX1_heads_2 ⟨Nat.zero_le _, Nat.zero_le _⟩ ?_
  rw [show ev 4 x = false from bad_ev hbad]
  refine eg_callWV (As := [.int (eb false)]) (rest := []) hx hb hml hown hts hK hP hD rfl hS (c_X1_asked_f l D cI cJ q n mk lt tg pa an kn row len thr  ) (cwV 1 hts gX1_heads_X1_asked rfl rfl rfl (by decide +kernel) ⟨Nat.le_of_ble_eq_true rfl, Nat.le_of_ble_eq_true rfl⟩) (va_recv hK hP (ci := 1) (q0 := 0) rfl rfl) rfl hl.1 rfl (Nat.le_of_ble_eq_true rfl) dX1_heads_5 ⟨Nat.zero_le _, Nat.zero_le _⟩ (fun v9 w9 H locs hR9 hw9 hP hS => ?_)
  obtain ⟨rfl, rfl⟩ := hR9
  refine eg_ifeq_b (tgt := 24) hx hb dX1_heads_8 (by decide) (fun _ => ?_) (fun h => Bool.noConfusion h)
  refine lv_lconst (v := 0) hx hb dX1_heads_24 (by decide) ?_
  exact W.lret hx hb hr (fun t9 ht9 _ => ⟨some (.long 0), (wM q cI cJ (nI n) mk lt tg pa an kn row len (nI 1)), rfl, ⟨_, _, rfl, rfl⟩, rfl, by rw [ht9]; exact hP, hS.F ht9⟩) hS.2.2 dX1_heads_25
set_option maxHeartbeats 4000000 in
set_option maxRecDepth 100000 in
theorem c_X1_critical_no1 (l : Launch) (D : va_G) (cI cJ : ClassId) (q : Nat → Nat) (n : Nat) (mk lt tg : Nat → Int32) (pa an kn : Nat → Int64) (row : Nat → Int32) (len thr : Int32) (x : Int32) (hbad : bad 4 x) : eg_MW D (tyL cI cJ) l yX1_critical wsX1_critical ({ frames := 2, cells := 0, slots := 0, locals := 42 }) 0 0 [.ref (q 0), .int x] (wM q cI cJ (nI n) mk lt tg pa an kn row len thr) (fun r w1 => ∃ (row' : Nat → Int32) (len' : Int32), r = some (.long 0) ∧ w1 = wM q cI cJ (nI n) mk lt tg pa an kn row' len' (nI 1)) := by
  refine Met.ofW (cc := cX1_critical) (maxL := 2) (ret := (some .long)) (by decide) rfl ?_
  intro p e s m args below meth c s₁ B hml hv
  obtain ⟨rfl, hP, hK, hD0⟩ := hv
  have hx := B.exec
  have hb := B.bytes
  have hr := B.returns
  have hts := atoms_spec (ws := wsX1_critical) B.pre
  have hown : s.vm.findClass RX1 = some m.cls := findClass_of_methodNamed B.named
  have hlocks := B.notSynchronized
  have hD := eg_D_of hD0
  have hS : va_S (eg_A (wM q cI cJ (nI n) mk lt tg pa an kn row len thr)) s.heap s.heap [] := va_S.rf
  have hl := lv_entry ([.ref (q 0), .int x]) (n := 2) (Nat.le_of_ble_eq_true rfl)
  rw [lg_entry_eq]
  generalize (lg_sl ([.ref (q 0), .int x]) ++ List.replicate (2 - (lg_sl ([.ref (q 0), .int x])).length) Slot.unset).toArray = ls at hl ⊢
  have hl : lv_has ls 2 [(0, .ref (q 0)), (1, .int x)] := hl
  generalize h0H : s.heap = H at hP ⊢
  have hS : va_S (eg_A (wM q cI cJ (nI n) mk lt tg pa an kn row len thr)) s.heap H [] := by rw [← h0H]; exact hS
  generalize ([] : List Loc) = locs at hS ⊢
  refine lv_aload_n hx hb dX1_critical_0 rfl (lv_at hl 0 rfl) ?_
  refine lv_iload_n hx hb dX1_critical_1 rfl (lv_at hl 1 rfl) ?_
  refine eg_callS (As := [.int x]) (rest := [.ref (q 0)]) hx hb hml hown hts hK (c_X1_isAuthor l D cI cJ x ) (va_cwS 1 hts gX1_critical_X1_isAuthor rfl rfl rfl (by decide +kernel) ⟨Nat.le_of_ble_eq_true rfl, Nat.le_of_ble_eq_true rfl⟩) rfl hl.1 rfl (Nat.le_of_ble_eq_true rfl) dX1_critical_2 ⟨Nat.zero_le _, Nat.zero_le _⟩ ?_
  rw [show ev 4 x = false from bad_ev hbad]
  refine eg_callWV (As := [.int (eb false)]) (rest := []) hx hb hml hown hts hK hP hD rfl hS (c_X1_asked_f l D cI cJ q n mk lt tg pa an kn row len thr  ) (cwV 1 hts gX1_critical_X1_asked rfl rfl rfl (by decide +kernel) ⟨Nat.le_of_ble_eq_true rfl, Nat.le_of_ble_eq_true rfl⟩) (va_recv hK hP (ci := 1) (q0 := 0) rfl rfl) rfl hl.1 rfl (Nat.le_of_ble_eq_true rfl) dX1_critical_5 ⟨Nat.zero_le _, Nat.zero_le _⟩ (fun v9 w9 H locs hR9 hw9 hP hS => ?_)
  obtain ⟨rfl, rfl⟩ := hR9
  refine eg_ifeq_b (tgt := 19) hx hb dX1_critical_8 (by decide) (fun _ => ?_) (fun h => Bool.noConfusion h)
  refine lv_lconst (v := 0) hx hb dX1_critical_19 (by decide) ?_
  exact W.lret hx hb hr (fun t9 ht9 _ => ⟨some (.long 0), (wM q cI cJ (nI n) mk lt tg pa an kn row len (nI 1)), rfl, ⟨_, _, rfl, rfl⟩, rfl, by rw [ht9]; exact hP, hS.F ht9⟩) hS.2.2 dX1_critical_20
set_option maxHeartbeats 4000000 in
set_option maxRecDepth 100000 in
theorem c_X1_commonHeads_no1 (l : Launch) (D : va_G) (cI cJ : ClassId) (q : Nat → Nat) (n : Nat) (mk lt tg : Nat → Int32) (pa an kn : Nat → Int64) (row : Nat → Int32) (len thr : Int32) (x : Int32) (y : Int32) (hbad : bad 4 x) : eg_MW D (tyL cI cJ) l yX1_commonHeads wsX1_commonHeads ({ frames := 2, cells := 0, slots := 0, locals := 42 }) 0 0 [.ref (q 0), .int x, .int y] (wM q cI cJ (nI n) mk lt tg pa an kn row len thr) (fun r w1 => ∃ (row' : Nat → Int32) (len' : Int32), r = some (.long 0) ∧ w1 = wM q cI cJ (nI n) mk lt tg pa an kn row' len' (nI 1)) := by
  refine Met.ofW (cc := cX1_commonHeads) (maxL := 3) (ret := (some .long)) (by decide) rfl ?_
  intro p e s m args below meth c s₁ B hml hv
  obtain ⟨rfl, hP, hK, hD0⟩ := hv
  have hx := B.exec
  have hb := B.bytes
  have hr := B.returns
  have hts := atoms_spec (ws := wsX1_commonHeads) B.pre
  have hown : s.vm.findClass RX1 = some m.cls := findClass_of_methodNamed B.named
  have hlocks := B.notSynchronized
  have hD := eg_D_of hD0
  have hS : va_S (eg_A (wM q cI cJ (nI n) mk lt tg pa an kn row len thr)) s.heap s.heap [] := va_S.rf
  have hin : ∀ w ∈ u_ws RX1 TX1 10, w ∈ wsX1_commonHeads := by decide +kernel
  have hl := lv_entry ([.ref (q 0), .int x, .int y]) (n := 3) (Nat.le_of_ble_eq_true rfl)
  rw [lg_entry_eq]
  generalize (lg_sl ([.ref (q 0), .int x, .int y]) ++ List.replicate (3 - (lg_sl ([.ref (q 0), .int x, .int y])).length) Slot.unset).toArray = ls at hl ⊢
  have hl : lv_has ls 3 [(0, .ref (q 0)), (1, .int x), (2, .int y)] := hl
  generalize h0H : s.heap = H at hP ⊢
  have hS : va_S (eg_A (wM q cI cJ (nI n) mk lt tg pa an kn row len thr)) s.heap H [] := by rw [← h0H]; exact hS
  generalize ([] : List Loc) = locs at hS ⊢
  refine lv_aload_n hx hb dX1_commonHeads_0 rfl (lv_at hl 0 rfl) ?_
  refine lv_iload_n hx hb dX1_commonHeads_1 rfl (lv_at hl 1 rfl) ?_
  refine eg_callS (As := [.int x]) (rest := [.ref (q 0)]) hx hb hml hown hts hK (c_X1_isAuthor l D cI cJ x ) (va_cwS 1 hts gX1_commonHeads_X1_isAuthor rfl rfl rfl (by decide +kernel) ⟨Nat.le_of_ble_eq_true rfl, Nat.le_of_ble_eq_true rfl⟩) rfl hl.1 rfl (Nat.le_of_ble_eq_true rfl) dX1_commonHeads_2 ⟨Nat.zero_le _, Nat.zero_le _⟩ ?_
  rw [show ev 4 x = false from bad_ev hbad]
  refine eg_ifeq_b (tgt := 19) hx hb dX1_commonHeads_5 (by decide) (fun _ => ?_) (fun h => Bool.noConfusion h)
  refine lv_iconst (v := nI 0) hx hb dX1_commonHeads_19 (by decide +kernel) ?_
  refine eg_callWV (As := [.int (eb false)]) (rest := []) hx hb hml hown hts hK hP hD rfl hS (c_X1_asked_f l D cI cJ q n mk lt tg pa an kn row len thr  ) (cwV 1 hts gX1_commonHeads_X1_asked rfl rfl rfl (by decide +kernel) ⟨Nat.le_of_ble_eq_true rfl, Nat.le_of_ble_eq_true rfl⟩) (va_recv hK hP (ci := 1) (q0 := 0) rfl rfl) rfl hl.1 rfl (Nat.le_of_ble_eq_true rfl) dX1_commonHeads_20 ⟨Nat.zero_le _, Nat.zero_le _⟩ (fun v9 w9 H locs hR9 hw9 hP hS => ?_)
  obtain ⟨rfl, rfl⟩ := hR9
  refine eg_ifeq_b (tgt := 46) hx hb dX1_commonHeads_23 (by decide) (fun _ => ?_) (fun h => Bool.noConfusion h)
  refine lv_lconst (v := 0) hx hb dX1_commonHeads_46 (by decide) ?_
  exact W.lret hx hb hr (fun t9 ht9 _ => ⟨some (.long 0), (wM q cI cJ (nI n) mk lt tg pa an kn row len (nI 1)), rfl, ⟨_, _, rfl, rfl⟩, rfl, by rw [ht9]; exact hP, hS.F ht9⟩) hS.2.2 dX1_commonHeads_47
set_option maxHeartbeats 4000000 in
set_option maxRecDepth 100000 in
theorem c_X1_commonHeads_no2 (l : Launch) (D : va_G) (cI cJ : ClassId) (q : Nat → Nat) (n : Nat) (mk lt tg : Nat → Int32) (pa an kn : Nat → Int64) (row : Nat → Int32) (len thr : Int32) (a : Nat) (y : Int32) (hI : Inv n lt tg an kn) (ha : a < 4) (hbad : bad 4 y) : eg_MW D (tyL cI cJ) l yX1_commonHeads wsX1_commonHeads ({ frames := 2, cells := 0, slots := 0, locals := 42 }) 0 0 [.ref (q 0), .int (nI a), .int y] (wM q cI cJ (nI n) mk lt tg pa an kn row len thr) (fun r w1 => ∃ (row' : Nat → Int32) (len' : Int32), r = some (.long 0) ∧ w1 = wM q cI cJ (nI n) mk lt tg pa an kn row' len' (nI 1)) := by
  refine Met.ofW (cc := cX1_commonHeads) (maxL := 3) (ret := (some .long)) (by decide) rfl ?_
  intro p e s m args below meth c s₁ B hml hv
  obtain ⟨rfl, hP, hK, hD0⟩ := hv
  have hx := B.exec
  have hb := B.bytes
  have hr := B.returns
  have hts := atoms_spec (ws := wsX1_commonHeads) B.pre
  have hown : s.vm.findClass RX1 = some m.cls := findClass_of_methodNamed B.named
  have hlocks := B.notSynchronized
  have hD := eg_D_of hD0
  have hS : va_S (eg_A (wM q cI cJ (nI n) mk lt tg pa an kn row len thr)) s.heap s.heap [] := va_S.rf
  have hin : ∀ w ∈ u_ws RX1 TX1 10, w ∈ wsX1_commonHeads := by decide +kernel
  have hl := lv_entry ([.ref (q 0), .int (nI a), .int y]) (n := 3) (Nat.le_of_ble_eq_true rfl)
  rw [lg_entry_eq]
  generalize (lg_sl ([.ref (q 0), .int (nI a), .int y]) ++ List.replicate (3 - (lg_sl ([.ref (q 0), .int (nI a), .int y])).length) Slot.unset).toArray = ls at hl ⊢
  have hl : lv_has ls 3 [(0, .ref (q 0)), (1, .int (nI a)), (2, .int y)] := hl
  generalize h0H : s.heap = H at hP ⊢
  have hS : va_S (eg_A (wM q cI cJ (nI n) mk lt tg pa an kn row len thr)) s.heap H [] := by rw [← h0H]; exact hS
  generalize ([] : List Loc) = locs at hS ⊢
  refine lv_aload_n hx hb dX1_commonHeads_0 rfl (lv_at hl 0 rfl) ?_
  refine lv_iload_n hx hb dX1_commonHeads_1 rfl (lv_at hl 1 rfl) ?_
  refine eg_callS (As := [.int (nI a)]) (rest := [.ref (q 0)]) hx hb hml hown hts hK (c_X1_isAuthor l D cI cJ (nI a) ) (va_cwS 1 hts gX1_commonHeads_X1_isAuthor rfl rfl rfl (by decide +kernel) ⟨Nat.le_of_ble_eq_true rfl, Nat.le_of_ble_eq_true rfl⟩) rfl hl.1 rfl (Nat.le_of_ble_eq_true rfl) dX1_commonHeads_2 ⟨Nat.zero_le _, Nat.zero_le _⟩ ?_
  rw [show ev 4 (nI a) = true from ev_nI (by decide) ha]
  refine eg_ifeq_b (tgt := 19) hx hb dX1_commonHeads_5 (by decide) (fun h => Bool.noConfusion h) (fun _ => ?_)
  refine lv_iload_n hx hb dX1_commonHeads_8 rfl (lv_at hl 2 rfl) ?_
  refine eg_callS (As := [.int y]) (rest := [.ref (q 0)]) hx hb hml hown hts hK (c_X1_isAuthor l D cI cJ y ) (va_cwS 1 hts gX1_commonHeads_X1_isAuthor rfl rfl rfl (by decide +kernel) ⟨Nat.le_of_ble_eq_true rfl, Nat.le_of_ble_eq_true rfl⟩) rfl hl.1 rfl (Nat.le_of_ble_eq_true rfl) dX1_commonHeads_9 ⟨Nat.zero_le _, Nat.zero_le _⟩ ?_
  rw [show ev 4 y = false from bad_ev hbad]
  refine eg_ifeq_b (tgt := 19) hx hb dX1_commonHeads_12 (by decide) (fun _ => ?_) (fun h => Bool.noConfusion h)
  refine lv_iconst (v := nI 0) hx hb dX1_commonHeads_19 (by decide +kernel) ?_
  refine eg_callWV (As := [.int (eb false)]) (rest := []) hx hb hml hown hts hK hP hD rfl hS (c_X1_asked_f l D cI cJ q n mk lt tg pa an kn row len thr  ) (cwV 1 hts gX1_commonHeads_X1_asked rfl rfl rfl (by decide +kernel) ⟨Nat.le_of_ble_eq_true rfl, Nat.le_of_ble_eq_true rfl⟩) (va_recv hK hP (ci := 1) (q0 := 0) rfl rfl) rfl hl.1 rfl (Nat.le_of_ble_eq_true rfl) dX1_commonHeads_20 ⟨Nat.zero_le _, Nat.zero_le _⟩ (fun v9 w9 H locs hR9 hw9 hP hS => ?_)
  obtain ⟨rfl, rfl⟩ := hR9
  refine eg_ifeq_b (tgt := 46) hx hb dX1_commonHeads_23 (by decide) (fun _ => ?_) (fun h => Bool.noConfusion h)
  refine lv_lconst (v := 0) hx hb dX1_commonHeads_46 (by decide) ?_
  exact W.lret hx hb hr (fun t9 ht9 _ => ⟨some (.long 0), (wM q cI cJ (nI n) mk lt tg pa an kn row len (nI 1)), rfl, ⟨_, _, rfl, rfl⟩, rfl, by rw [ht9]; exact hP, hS.F ht9⟩) hS.2.2 dX1_commonHeads_47
set_option maxHeartbeats 4000000 in
set_option maxRecDepth 100000 in
theorem c_X1_toReplay (l : Launch) (D : va_G) (cI cJ : ClassId) (q : Nat → Nat) (n : Nat) (mk lt tg : Nat → Int32) (pa an kn : Nat → Int64) (row : Nat → Int32) (len thr : Int32) (a : Nat) (hI : Inv n lt tg an kn) (ha : a < 4) : eg_MW D (tyL cI cJ) l yX1_toReplay wsX1_toReplay ({ frames := 3, cells := 0, slots := 0, locals := 70 }) 0 0 [.ref (q 0), .int (nI a)] (wM q cI cJ (nI n) mk lt tg pa an kn row len thr) (fun r w1 => r = some (.int (nI (pc64 (kn a &&& (tpX an (crM an (kn a) n n) n ^^^ (-1)))))) ∧ w1 = wM q cI cJ (nI n) mk lt tg pa an kn row len (nI 0)) := by
  have hI1 := hI.1
  refine Met.ofW (cc := cX1_toReplay) (maxL := 7) (ret := (some .int)) (by decide) rfl ?_
  intro p e s m args below meth c s₁ B hml hv
  obtain ⟨rfl, hP, hK, hD0⟩ := hv
  have hx := B.exec
  have hb := B.bytes
  have hr := B.returns
  have hts := atoms_spec (ws := wsX1_toReplay) B.pre
  have hown : s.vm.findClass RX1 = some m.cls := findClass_of_methodNamed B.named
  have hlocks := B.notSynchronized
  have hD := eg_D_of hD0
  have hS : va_S (eg_A (wM q cI cJ (nI n) mk lt tg pa an kn row len thr)) s.heap s.heap [] := va_S.rf
  have hin : ∀ w ∈ u_ws RX1 TX1 10, w ∈ wsX1_toReplay := by decide +kernel
  have hl := lv_entry ([.ref (q 0), .int (nI a)]) (n := 7) (Nat.le_of_ble_eq_true rfl)
  rw [lg_entry_eq]
  generalize (lg_sl ([.ref (q 0), .int (nI a)]) ++ List.replicate (7 - (lg_sl ([.ref (q 0), .int (nI a)])).length) Slot.unset).toArray = ls at hl ⊢
  have hl : lv_has ls 7 [(0, .ref (q 0)), (1, .int (nI a))] := hl
  generalize h0H : s.heap = H at hP ⊢
  have hS : va_S (eg_A (wM q cI cJ (nI n) mk lt tg pa an kn row len thr)) s.heap H [] := by rw [← h0H]; exact hS
  generalize ([] : List Loc) = locs at hS ⊢
  have loop : ∀ (f i : Nat) (H : Heap) (locs : List Loc) (ls : Array Slot), n < i + f → i ≤ n → va_P D vwCl (wM q cI cJ (nI n) mk lt tg pa an kn row len (nI 0)) H → va_S (eg_A (wM q cI cJ (nI n) mk lt tg pa an kn row len thr)) s.heap H locs → lv_has ls 7 [(0, .ref (q 0)), (1, .int (nI a)), (2, .long (crM an (kn a) n n)), (4, .long (tpX an (crM an (kn a) n n) i)), (6, .int (nI i))] → W p l e (headSpec wsX1_toReplay ({ frames := 3, cells := 0, slots := 0, locals := 70 })).room s m ([.ref (q 0), .int (nI a)] : List Value).toArray below meth c H locs 0 0 (MQ below (eg_Wq D (wM q cI cJ (nI n) mk lt tg pa an kn row len thr) (fun r w1 => r = some (.int (nI (pc64 (kn a &&& (tpX an (crM an (kn a) n n) n ^^^ (-1)))))) ∧ w1 = wM q cI cJ (nI n) mk lt tg pa an kn row len (nI 0))) ([.ref (q 0), .int (nI a)] : List Value).toArray s 0 0 (eg_A (wM q cI cJ (nI n) mk lt tg pa an kn row len thr))) (F0 m 25 ls []) := by
    intro f
    induction f with
    | zero => intro i  H locs ls h1 h2 hP hS hl; omega
    | succ f ih =>
      intro i  H locs ls h1 h2 hP hS hl
      refine lv_iload hx hb dX1_toReplay_25 (lv_at hl 4 rfl) ?_
      refine lv_aload_n hx hb dX1_toReplay_27 rfl (lv_at hl 0 rfl) ?_
      refine va_get (D := D) (ci := 1) (v := .int (nI n)) (C := RX1) (T := TX1) (N := 10) hx hb hts hin hown hK hP 0 rfl rfl 5 (by decide) (hts (.fieldLink RX1 40 "EditGraphModel" "events" "I") (by decide +kernel)) (fun _ h9 => h9) rfl dX1_toReplay_28 ?_
      refine eg_icmp_ge (tgt := 62) hx hb dX1_toReplay_31 (by decide) (by omega) (by omega) (fun c31 => ?_) (fun c31 => ?_)
      · refine lv_aload_n hx hb dX1_toReplay_62 rfl (lv_at hl 0 rfl) ?_
        refine lv_aload_n hx hb dX1_toReplay_63 rfl (lv_at hl 0 rfl) ?_
        refine va_get (D := D) (ci := 1) (v := .ref (q 6)) (C := RX1) (T := TX1) (N := 10) hx hb hts hin hown hK hP 0 rfl rfl 6 (by decide) (hts (.fieldLink RX1 26 "EditGraphModel" "knows" "[J") (by decide +kernel)) (fun _ h9 => h9) rfl dX1_toReplay_64 ?_
        refine lv_iload_n hx hb dX1_toReplay_67 rfl (lv_at hl 1 rfl) ?_
        refine eg_lald hx hb hK hP 6 1 rfl rfl (by omega) (by decide) dX1_toReplay_68 ?_
        refine lv_lload hx hb dX1_toReplay_69 (lv_at hl 3 rfl) ?_
        refine lv_ldc2 hx hb hown (hts (.constantLong RX1 47 (-1)) (by decide +kernel)) dX1_toReplay_71 ?_
        refine lv_lxor hx hb dX1_toReplay_74 ?_
        refine lv_land hx hb dX1_toReplay_75 ?_
        refine eg_callV (As := [.long ((kn a) &&& ((tpX an (crM an (kn a) n n) i) ^^^ (-1)))]) (rest := []) hx hb hml hown hts hK hP (c_X1_count l D cI cJ q n mk lt tg pa an kn row len (nI 0) ((kn a) &&& ((tpX an (crM an (kn a) n n) i) ^^^ (-1))) hI.1) (cwV 1 hts gX1_toReplay_X1_count rfl rfl rfl (by decide +kernel) ⟨Nat.le_of_ble_eq_true rfl, Nat.le_of_ble_eq_true rfl⟩) (va_recv hK hP (ci := 1) (q0 := 0) rfl rfl) rfl hl.1 rfl (Nat.le_of_ble_eq_true rfl) dX1_toReplay_76 ⟨Nat.zero_le _, Nat.zero_le _⟩ ?_
        rw [pc_n hI.1 (hI.vk ha).1, show i = n by omega]
        exact W.iret hx hb hr (fun t9 ht9 _ => ⟨some (.int (nI (pc64 (kn a &&& (tpX an (crM an (kn a) n n) n ^^^ (-1)))))), (wM q cI cJ (nI n) mk lt tg pa an kn row len (nI 0)), rfl, ⟨rfl, rfl⟩, rfl, by rw [ht9]; exact hP, hS.F ht9⟩) hS.2.2 dX1_toReplay_79
      · refine lv_lload_n hx hb dX1_toReplay_34 rfl (lv_at hl 2 rfl) ?_
        refine lv_iload hx hb dX1_toReplay_35 (lv_at hl 4 rfl) ?_
        refine eg_callS (As := [.long (crM an (kn a) n n), .int (nI i)]) (rest := []) hx hb hml hown hts hK (c_X1_has l D cI cJ (crM an (kn a) n n) i (by omega)) (va_cwS 2 hts gX1_toReplay_X1_has rfl rfl rfl (by decide +kernel) ⟨Nat.le_of_ble_eq_true rfl, Nat.le_of_ble_eq_true rfl⟩) rfl hl.1 rfl (Nat.le_of_ble_eq_true rfl) dX1_toReplay_37 ⟨Nat.zero_le _, Nat.zero_le _⟩ ?_
        refine eg_ifeq_b (tgt := 52) hx hb dX1_toReplay_40 (by decide) (fun c40 => ?_) (fun c40 => ?_)
        · refine lv_lload hx hb dX1_toReplay_52 (lv_at hl 3 rfl) ?_
          refine lv_lstore (lv' := [(4, .long (tpX an (crM an (kn a) n n) i)), (0, .ref (q 0)), (1, .int (nI a)), (2, .long (crM an (kn a) n n)), (6, .int (nI i))]) hx hb dX1_toReplay_54 hl (by decide) rfl (fun ls hl => ?_)
          refine lv_iinc (v := nI (i + 1)) (lv' := [(6, .int (nI (i + 1))), (4, .long (tpX an (crM an (kn a) n n) i)), (0, .ref (q 0)), (1, .int (nI a)), (2, .long (crM an (kn a) n n))]) hx hb dX1_toReplay_56 hl (k := 4) rfl (eg_inc1 _) (by decide) rfl (fun ls hl => ?_)
          refine lv_goto (tgt := 25) hx hb dX1_toReplay_59 (by decide) ?_
          have eA : tpX an (crM an (kn a) n n) (i + 1) = tpX an (crM an (kn a) n n) i := by first | (rw [tpX, if_pos c40]; done) | (rw [tpX, if_neg (fun h => Bool.noConfusion (c40.symm.trans h))]; done)
          exact ih (i + 1) H locs _ (by omega) (by omega) hP hS (by rw [eA]; exact lv_sub hl [2, 3, 4, 1, 0] rfl)
        · refine lv_aload_n hx hb dX1_toReplay_43 rfl (lv_at hl 0 rfl) ?_
          refine lv_iload hx hb dX1_toReplay_44 (lv_at hl 4 rfl) ?_
          refine eg_callV (As := [.int (nI i)]) (rest := []) hx hb hml hown hts hK hP (c_X1_versionOf l D cI cJ q n mk lt tg pa an kn row len (nI 0) i (by omega)) (cwV 1 hts gX1_toReplay_X1_versionOf rfl rfl rfl (by decide +kernel) ⟨Nat.le_of_ble_eq_true rfl, Nat.le_of_ble_eq_true rfl⟩) (va_recv hK hP (ci := 1) (q0 := 0) rfl rfl) rfl hl.1 rfl (Nat.le_of_ble_eq_true rfl) dX1_toReplay_46 ⟨Nat.zero_le _, Nat.zero_le _⟩ ?_
          refine lv_goto (tgt := 54) hx hb dX1_toReplay_49 (by decide) ?_
          refine lv_lstore (lv' := [(4, .long (an i ||| ol i)), (0, .ref (q 0)), (1, .int (nI a)), (2, .long (crM an (kn a) n n)), (6, .int (nI i))]) hx hb dX1_toReplay_54 hl (by decide) rfl (fun ls hl => ?_)
          refine lv_iinc (v := nI (i + 1)) (lv' := [(6, .int (nI (i + 1))), (4, .long (an i ||| ol i)), (0, .ref (q 0)), (1, .int (nI a)), (2, .long (crM an (kn a) n n))]) hx hb dX1_toReplay_56 hl (k := 4) rfl (eg_inc1 _) (by decide) rfl (fun ls hl => ?_)
          refine lv_goto (tgt := 25) hx hb dX1_toReplay_59 (by decide) ?_
          have eA : tpX an (crM an (kn a) n n) (i + 1) = (an i ||| ol i) := by first | (rw [tpX, if_pos c40]; done) | (rw [tpX, if_neg (fun h => Bool.noConfusion (c40.symm.trans h))]; done)
          exact ih (i + 1) H locs _ (by omega) (by omega) hP hS (by rw [eA]; exact lv_sub hl [2, 3, 4, 1, 0] rfl)
  refine lv_aload_n hx hb dX1_toReplay_0 rfl (lv_at hl 0 rfl) ?_
  refine lv_iload_n hx hb dX1_toReplay_1 rfl (lv_at hl 1 rfl) ?_
  refine eg_callS (As := [.int (nI a)]) (rest := [.ref (q 0)]) hx hb hml hown hts hK (c_X1_isAuthor l D cI cJ (nI a) ) (va_cwS 1 hts gX1_toReplay_X1_isAuthor rfl rfl rfl (by decide +kernel) ⟨Nat.le_of_ble_eq_true rfl, Nat.le_of_ble_eq_true rfl⟩) rfl hl.1 rfl (Nat.le_of_ble_eq_true rfl) dX1_toReplay_2 ⟨Nat.zero_le _, Nat.zero_le _⟩ ?_
  rw [show ev 4 (nI a) = true from ev_nI (by decide) ha]
  refine eg_callWV (As := [.int (eb true)]) (rest := []) hx hb hml hown hts hK hP hD rfl hS (c_X1_asked_t l D cI cJ q n mk lt tg pa an kn row len thr  ) (cwV 1 hts gX1_toReplay_X1_asked rfl rfl rfl (by decide +kernel) ⟨Nat.le_of_ble_eq_true rfl, Nat.le_of_ble_eq_true rfl⟩) (va_recv hK hP (ci := 1) (q0 := 0) rfl rfl) rfl hl.1 rfl (Nat.le_of_ble_eq_true rfl) dX1_toReplay_5 ⟨Nat.zero_le _, Nat.zero_le _⟩ (fun v9 w9 H locs hR9 hw9 hP hS => ?_)
  obtain ⟨rfl, rfl⟩ := hR9
  refine eg_ifne_b (tgt := 13) hx hb dX1_toReplay_8 (by decide) (fun _ => ?_) (fun h => Bool.noConfusion h)
  refine lv_aload_n hx hb dX1_toReplay_13 rfl (lv_at hl 0 rfl) ?_
  refine lv_iload_n hx hb dX1_toReplay_14 rfl (lv_at hl 1 rfl) ?_
  refine eg_callV (As := [.int (nI a)]) (rest := []) hx hb hml hown hts hK hP (c_X1_criticals l D cI cJ q n mk lt tg pa an kn row len (nI 0) a hI ha) (cwV 1 hts gX1_toReplay_X1_criticals rfl rfl rfl (by decide +kernel) ⟨Nat.le_of_ble_eq_true rfl, Nat.le_of_ble_eq_true rfl⟩) (va_recv hK hP (ci := 1) (q0 := 0) rfl rfl) rfl hl.1 rfl (Nat.le_of_ble_eq_true rfl) dX1_toReplay_15 ⟨Nat.zero_le _, Nat.zero_le _⟩ ?_
  refine lv_lstore_n (lv' := [(2, .long (crM an (kn a) n n)), (0, .ref (q 0)), (1, .int (nI a))]) hx hb dX1_toReplay_18 rfl hl (by decide) rfl (fun ls hl => ?_)
  refine lv_lconst (v := 0) hx hb dX1_toReplay_19 (by decide) ?_
  refine lv_lstore (lv' := [(4, .long 0), (2, .long (crM an (kn a) n n)), (0, .ref (q 0)), (1, .int (nI a))]) hx hb dX1_toReplay_20 hl (by decide) rfl (fun ls hl => ?_)
  refine lv_iconst (v := nI 0) hx hb dX1_toReplay_22 (by decide +kernel) ?_
  refine lv_istore (lv' := [(6, .int (nI 0)), (4, .long 0), (2, .long (crM an (kn a) n n)), (0, .ref (q 0)), (1, .int (nI a))]) hx hb dX1_toReplay_23 hl (by decide) rfl (fun ls hl => ?_)
  exact loop (n + 1) 0 H locs _ (by omega) (by omega) hP hS (lv_sub hl [3, 4, 2, 1, 0] rfl)
set_option maxHeartbeats 4000000 in
set_option maxRecDepth 100000 in
theorem c_X1_toReplay_no1 (l : Launch) (D : va_G) (cI cJ : ClassId) (q : Nat → Nat) (n : Nat) (mk lt tg : Nat → Int32) (pa an kn : Nat → Int64) (row : Nat → Int32) (len thr : Int32) (x : Int32) (hbad : bad 4 x) : eg_MW D (tyL cI cJ) l yX1_toReplay wsX1_toReplay ({ frames := 2, cells := 0, slots := 0, locals := 42 }) 0 0 [.ref (q 0), .int x] (wM q cI cJ (nI n) mk lt tg pa an kn row len thr) (fun r w1 => ∃ (row' : Nat → Int32) (len' : Int32), r = some (.int (nI 0)) ∧ w1 = wM q cI cJ (nI n) mk lt tg pa an kn row' len' (nI 1)) := by
  refine Met.ofW (cc := cX1_toReplay) (maxL := 7) (ret := (some .int)) (by decide) rfl ?_
  intro p e s m args below meth c s₁ B hml hv
  obtain ⟨rfl, hP, hK, hD0⟩ := hv
  have hx := B.exec
  have hb := B.bytes
  have hr := B.returns
  have hts := atoms_spec (ws := wsX1_toReplay) B.pre
  have hown : s.vm.findClass RX1 = some m.cls := findClass_of_methodNamed B.named
  have hlocks := B.notSynchronized
  have hD := eg_D_of hD0
  have hS : va_S (eg_A (wM q cI cJ (nI n) mk lt tg pa an kn row len thr)) s.heap s.heap [] := va_S.rf
  have hin : ∀ w ∈ u_ws RX1 TX1 10, w ∈ wsX1_toReplay := by decide +kernel
  have hl := lv_entry ([.ref (q 0), .int x]) (n := 7) (Nat.le_of_ble_eq_true rfl)
  rw [lg_entry_eq]
  generalize (lg_sl ([.ref (q 0), .int x]) ++ List.replicate (7 - (lg_sl ([.ref (q 0), .int x])).length) Slot.unset).toArray = ls at hl ⊢
  have hl : lv_has ls 7 [(0, .ref (q 0)), (1, .int x)] := hl
  generalize h0H : s.heap = H at hP ⊢
  have hS : va_S (eg_A (wM q cI cJ (nI n) mk lt tg pa an kn row len thr)) s.heap H [] := by rw [← h0H]; exact hS
  generalize ([] : List Loc) = locs at hS ⊢
  refine lv_aload_n hx hb dX1_toReplay_0 rfl (lv_at hl 0 rfl) ?_
  refine lv_iload_n hx hb dX1_toReplay_1 rfl (lv_at hl 1 rfl) ?_
  refine eg_callS (As := [.int x]) (rest := [.ref (q 0)]) hx hb hml hown hts hK (c_X1_isAuthor l D cI cJ x ) (va_cwS 1 hts gX1_toReplay_X1_isAuthor rfl rfl rfl (by decide +kernel) ⟨Nat.le_of_ble_eq_true rfl, Nat.le_of_ble_eq_true rfl⟩) rfl hl.1 rfl (Nat.le_of_ble_eq_true rfl) dX1_toReplay_2 ⟨Nat.zero_le _, Nat.zero_le _⟩ ?_
  rw [show ev 4 x = false from bad_ev hbad]
  refine eg_callWV (As := [.int (eb false)]) (rest := []) hx hb hml hown hts hK hP hD rfl hS (c_X1_asked_f l D cI cJ q n mk lt tg pa an kn row len thr  ) (cwV 1 hts gX1_toReplay_X1_asked rfl rfl rfl (by decide +kernel) ⟨Nat.le_of_ble_eq_true rfl, Nat.le_of_ble_eq_true rfl⟩) (va_recv hK hP (ci := 1) (q0 := 0) rfl rfl) rfl hl.1 rfl (Nat.le_of_ble_eq_true rfl) dX1_toReplay_5 ⟨Nat.zero_le _, Nat.zero_le _⟩ (fun v9 w9 H locs hR9 hw9 hP hS => ?_)
  obtain ⟨rfl, rfl⟩ := hR9
  refine eg_ifne_b (tgt := 13) hx hb dX1_toReplay_8 (by decide) (fun h => Bool.noConfusion h) (fun _ => ?_)
  refine lv_iconst (v := nI 0) hx hb dX1_toReplay_11 (by decide +kernel) ?_
  exact W.iret hx hb hr (fun t9 ht9 _ => ⟨some (.int (nI 0)), (wM q cI cJ (nI n) mk lt tg pa an kn row len (nI 1)), rfl, ⟨_, _, rfl, rfl⟩, rfl, by rw [ht9]; exact hP, hS.F ht9⟩) hS.2.2 dX1_toReplay_12
set_option maxHeartbeats 4000000 in
set_option maxRecDepth 100000 in
theorem c_X1_runs (l : Launch) (D : va_G) (cI cJ : ClassId) (q : Nat → Nat) (n : Nat) (mk lt tg : Nat → Int32) (pa an kn : Nat → Int64) (row : Nat → Int32) (len thr : Int32) (a : Nat) (hI : Inv n lt tg an kn) (ha : a < 4) : eg_MW D (tyL cI cJ) l yX1_runs wsX1_runs ({ frames := 2, cells := 0, slots := 0, locals := 42 }) 0 0 [.ref (q 0), .int (nI a)] (wM q cI cJ (nI n) mk lt tg pa an kn row len thr) (fun r w1 => r = some (.int (nI (rnM mk lt tg pa (kn a) n))) ∧ w1 = wM q cI cJ (nI n) mk lt tg pa an kn row len (nI 0)) := by
  have hI1 := hI.1
  refine Met.ofW (cc := cX1_runs) (maxL := 5) (ret := (some .int)) (by decide) rfl ?_
  intro p e s m args below meth c s₁ B hml hv
  obtain ⟨rfl, hP, hK, hD0⟩ := hv
  have hx := B.exec
  have hb := B.bytes
  have hr := B.returns
  have hts := atoms_spec (ws := wsX1_runs) B.pre
  have hown : s.vm.findClass RX1 = some m.cls := findClass_of_methodNamed B.named
  have hlocks := B.notSynchronized
  have hD := eg_D_of hD0
  have hS : va_S (eg_A (wM q cI cJ (nI n) mk lt tg pa an kn row len thr)) s.heap s.heap [] := va_S.rf
  have hin : ∀ w ∈ u_ws RX1 TX1 10, w ∈ wsX1_runs := by decide +kernel
  have hl := lv_entry ([.ref (q 0), .int (nI a)]) (n := 5) (Nat.le_of_ble_eq_true rfl)
  rw [lg_entry_eq]
  generalize (lg_sl ([.ref (q 0), .int (nI a)]) ++ List.replicate (5 - (lg_sl ([.ref (q 0), .int (nI a)])).length) Slot.unset).toArray = ls at hl ⊢
  have hl : lv_has ls 5 [(0, .ref (q 0)), (1, .int (nI a))] := hl
  generalize h0H : s.heap = H at hP ⊢
  have hS : va_S (eg_A (wM q cI cJ (nI n) mk lt tg pa an kn row len thr)) s.heap H [] := by rw [← h0H]; exact hS
  generalize ([] : List Loc) = locs at hS ⊢
  have loop : ∀ (f i : Nat) (H : Heap) (locs : List Loc) (ls : Array Slot), n < i + f → i ≤ n → va_P D vwCl (wM q cI cJ (nI n) mk lt tg pa an kn row len (nI 0)) H → va_S (eg_A (wM q cI cJ (nI n) mk lt tg pa an kn row len thr)) s.heap H locs → lv_has ls 5 [(0, .ref (q 0)), (1, .int (nI a)), (2, .int (nI (rnM mk lt tg pa (kn a) i))), (3, .int (eb true)), (4, .int (nI i))] → W p l e (headSpec wsX1_runs ({ frames := 2, cells := 0, slots := 0, locals := 42 })).room s m ([.ref (q 0), .int (nI a)] : List Value).toArray below meth c H locs 0 0 (MQ below (eg_Wq D (wM q cI cJ (nI n) mk lt tg pa an kn row len thr) (fun r w1 => r = some (.int (nI (rnM mk lt tg pa (kn a) n))) ∧ w1 = wM q cI cJ (nI n) mk lt tg pa an kn row len (nI 0))) ([.ref (q 0), .int (nI a)] : List Value).toArray s 0 0 (eg_A (wM q cI cJ (nI n) mk lt tg pa an kn row len thr))) (F0 m 14 ls []) := by
    intro f
    induction f with
    | zero => intro i  H locs ls h1 h2 hP hS hl; omega
    | succ f ih =>
      intro i  H locs ls h1 h2 hP hS hl
      refine lv_iload_n hx hb dX1_runs_14 rfl (lv_at hl 3 rfl) ?_
      refine eg_ifeq_b (tgt := 64) hx hb dX1_runs_15 (by decide) (fun h => Bool.noConfusion h) (fun _ => ?_)
      refine lv_iload hx hb dX1_runs_18 (lv_at hl 4 rfl) ?_
      refine lv_aload_n hx hb dX1_runs_20 rfl (lv_at hl 0 rfl) ?_
      refine va_get (D := D) (ci := 1) (v := .int (nI n)) (C := RX1) (T := TX1) (N := 10) hx hb hts hin hown hK hP 0 rfl rfl 5 (by decide) (hts (.fieldLink RX1 40 "EditGraphModel" "events" "I") (by decide +kernel)) (fun _ h9 => h9) rfl dX1_runs_21 ?_
      refine eg_icmp_ge (tgt := 64) hx hb dX1_runs_24 (by decide) (by omega) (by omega) (fun c24 => ?_) (fun c24 => ?_)
      · refine lv_iload_n hx hb dX1_runs_64 rfl (lv_at hl 2 rfl) ?_
        have ein : i = n := by omega
        exact W.iret hx hb hr (fun t9 ht9 _ => ⟨some (.int (nI (rnM mk lt tg pa (kn a) i))), (wM q cI cJ (nI n) mk lt tg pa an kn row len (nI 0)), rfl, ⟨by rw [ein], rfl⟩, rfl, by rw [ht9]; exact hP, hS.F ht9⟩) hS.2.2 dX1_runs_65
      · refine lv_iload_n hx hb dX1_runs_27 rfl (lv_at hl 2 rfl) ?_
        refine lv_aload_n hx hb dX1_runs_28 rfl (lv_at hl 0 rfl) ?_
        refine va_get (D := D) (ci := 1) (v := .ref (q 6)) (C := RX1) (T := TX1) (N := 10) hx hb hts hin hown hK hP 0 rfl rfl 6 (by decide) (hts (.fieldLink RX1 26 "EditGraphModel" "knows" "[J") (by decide +kernel)) (fun _ h9 => h9) rfl dX1_runs_29 ?_
        refine lv_iload_n hx hb dX1_runs_32 rfl (lv_at hl 1 rfl) ?_
        refine eg_lald hx hb hK hP 6 1 rfl rfl (by omega) (by decide) dX1_runs_33 ?_
        refine lv_iload hx hb dX1_runs_34 (lv_at hl 4 rfl) ?_
        refine eg_callS (As := [.long (kn a), .int (nI i)]) (rest := [.int (nI (rnM mk lt tg pa (kn a) i))]) hx hb hml hown hts hK (c_X1_has l D cI cJ (kn a) i (by omega)) (va_cwS 2 hts gX1_runs_X1_has rfl rfl rfl (by decide +kernel) ⟨Nat.le_of_ble_eq_true rfl, Nat.le_of_ble_eq_true rfl⟩) rfl hl.1 rfl (Nat.le_of_ble_eq_true rfl) dX1_runs_36 ⟨Nat.zero_le _, Nat.zero_le _⟩ ?_
        refine eg_ifeq_b (tgt := 55) hx hb dX1_runs_39 (by decide) (fun c39 => ?_) (fun c39 => ?_)
        · refine lv_iconst (v := nI 0) hx hb dX1_runs_55 (by decide +kernel) ?_
          refine eg_iadd hx hb dX1_runs_56 ?_
          refine lv_istore_n (lv' := [(2, .int (nI (rnM mk lt tg pa (kn a) i + 0))), (0, .ref (q 0)), (1, .int (nI a)), (3, .int (eb true)), (4, .int (nI i))]) hx hb dX1_runs_57 rfl hl (by decide) rfl (fun ls hl => ?_)
          refine lv_iinc (v := nI (i + 1)) (lv' := [(4, .int (nI (i + 1))), (2, .int (nI (rnM mk lt tg pa (kn a) i + 0))), (0, .ref (q 0)), (1, .int (nI a)), (3, .int (eb true))]) hx hb dX1_runs_58 hl (k := 4) rfl (eg_inc1 _) (by decide) rfl (fun ls hl => ?_)
          refine lv_goto (tgt := 14) hx hb dX1_runs_61 (by decide) ?_
          have eA : rnM mk lt tg pa (kn a) (i + 1) = rnM mk lt tg pa (kn a) i + 0 := by first | (rw [rnM, if_pos ⟨c39, c48⟩]; done) | (rw [rnM, if_neg (fun h => Bool.noConfusion (c39.symm.trans h.1))]; done) | (rw [rnM, if_neg (fun h => Bool.noConfusion (c48.symm.trans h.2))]; done)
          exact ih (i + 1) H locs _ (by omega) (by omega) hP hS (by rw [eA]; exact lv_sub hl [2, 3, 1, 4, 0] rfl)
        · refine lv_aload_n hx hb dX1_runs_42 rfl (lv_at hl 0 rfl) ?_
          refine lv_iload hx hb dX1_runs_43 (lv_at hl 4 rfl) ?_
          refine eg_callV (As := [.int (nI i)]) (rest := [.int (nI (rnM mk lt tg pa (kn a) i))]) hx hb hml hown hts hK hP (c_X1_goesOn l D cI cJ q n mk lt tg pa an kn row len (nI 0) i hI (by omega)) (cwV 1 hts gX1_runs_X1_goesOn rfl rfl rfl (by decide +kernel) ⟨Nat.le_of_ble_eq_true rfl, Nat.le_of_ble_eq_true rfl⟩) (va_recv hK hP (ci := 1) (q0 := 0) rfl rfl) rfl hl.1 rfl (Nat.le_of_ble_eq_true rfl) dX1_runs_45 ⟨Nat.zero_le _, Nat.zero_le _⟩ ?_
          refine eg_ifne_b (tgt := 55) hx hb dX1_runs_48 (by decide) (fun c48 => ?_) (fun c48 => ?_)
          · refine lv_iconst (v := nI 0) hx hb dX1_runs_55 (by decide +kernel) ?_
            refine eg_iadd hx hb dX1_runs_56 ?_
            refine lv_istore_n (lv' := [(2, .int (nI (rnM mk lt tg pa (kn a) i + 0))), (0, .ref (q 0)), (1, .int (nI a)), (3, .int (eb true)), (4, .int (nI i))]) hx hb dX1_runs_57 rfl hl (by decide) rfl (fun ls hl => ?_)
            refine lv_iinc (v := nI (i + 1)) (lv' := [(4, .int (nI (i + 1))), (2, .int (nI (rnM mk lt tg pa (kn a) i + 0))), (0, .ref (q 0)), (1, .int (nI a)), (3, .int (eb true))]) hx hb dX1_runs_58 hl (k := 4) rfl (eg_inc1 _) (by decide) rfl (fun ls hl => ?_)
            refine lv_goto (tgt := 14) hx hb dX1_runs_61 (by decide) ?_
            have eA : rnM mk lt tg pa (kn a) (i + 1) = rnM mk lt tg pa (kn a) i + 0 := by first | (rw [rnM, if_pos ⟨c39, c48⟩]; done) | (rw [rnM, if_neg (fun h => Bool.noConfusion (c39.symm.trans h.1))]; done) | (rw [rnM, if_neg (fun h => Bool.noConfusion (c48.symm.trans h.2))]; done)
            exact ih (i + 1) H locs _ (by omega) (by omega) hP hS (by rw [eA]; exact lv_sub hl [2, 3, 1, 4, 0] rfl)
          · refine lv_iconst (v := nI 1) hx hb dX1_runs_51 (by decide +kernel) ?_
            refine lv_goto (tgt := 56) hx hb dX1_runs_52 (by decide) ?_
            refine eg_iadd hx hb dX1_runs_56 ?_
            refine lv_istore_n (lv' := [(2, .int (nI (rnM mk lt tg pa (kn a) i + 1))), (0, .ref (q 0)), (1, .int (nI a)), (3, .int (eb true)), (4, .int (nI i))]) hx hb dX1_runs_57 rfl hl (by decide) rfl (fun ls hl => ?_)
            refine lv_iinc (v := nI (i + 1)) (lv' := [(4, .int (nI (i + 1))), (2, .int (nI (rnM mk lt tg pa (kn a) i + 1))), (0, .ref (q 0)), (1, .int (nI a)), (3, .int (eb true))]) hx hb dX1_runs_58 hl (k := 4) rfl (eg_inc1 _) (by decide) rfl (fun ls hl => ?_)
            refine lv_goto (tgt := 14) hx hb dX1_runs_61 (by decide) ?_
            have eA : rnM mk lt tg pa (kn a) (i + 1) = rnM mk lt tg pa (kn a) i + 1 := by first | (rw [rnM, if_pos ⟨c39, c48⟩]; done) | (rw [rnM, if_neg (fun h => Bool.noConfusion (c39.symm.trans h.1))]; done) | (rw [rnM, if_neg (fun h => Bool.noConfusion (c48.symm.trans h.2))]; done)
            exact ih (i + 1) H locs _ (by omega) (by omega) hP hS (by rw [eA]; exact lv_sub hl [2, 3, 1, 4, 0] rfl)
  refine lv_iconst (v := nI 0) hx hb dX1_runs_0 (by decide +kernel) ?_
  refine lv_istore_n (lv' := [(2, .int (nI 0)), (0, .ref (q 0)), (1, .int (nI a))]) hx hb dX1_runs_1 rfl hl (by decide) rfl (fun ls hl => ?_)
  refine lv_aload_n hx hb dX1_runs_2 rfl (lv_at hl 1 rfl) ?_
  refine lv_iload_n hx hb dX1_runs_3 rfl (lv_at hl 2 rfl) ?_
  refine eg_callS (As := [.int (nI a)]) (rest := [.ref (q 0)]) hx hb hml hown hts hK (c_X1_isAuthor l D cI cJ (nI a) ) (va_cwS 1 hts gX1_runs_X1_isAuthor rfl rfl rfl (by decide +kernel) ⟨Nat.le_of_ble_eq_true rfl, Nat.le_of_ble_eq_true rfl⟩) rfl hl.1 rfl (Nat.le_of_ble_eq_true rfl) dX1_runs_4 ⟨Nat.zero_le _, Nat.zero_le _⟩ ?_
  rw [show ev 4 (nI a) = true from ev_nI (by decide) ha]
  refine eg_callWV (As := [.int (eb true)]) (rest := []) hx hb hml hown hts hK hP hD rfl hS (c_X1_asked_t l D cI cJ q n mk lt tg pa an kn row len thr  ) (cwV 1 hts gX1_runs_X1_asked rfl rfl rfl (by decide +kernel) ⟨Nat.le_of_ble_eq_true rfl, Nat.le_of_ble_eq_true rfl⟩) (va_recv hK hP (ci := 1) (q0 := 0) rfl rfl) rfl hl.1 rfl (Nat.le_of_ble_eq_true rfl) dX1_runs_7 ⟨Nat.zero_le _, Nat.zero_le _⟩ (fun v9 w9 H locs hR9 hw9 hP hS => ?_)
  obtain ⟨rfl, rfl⟩ := hR9
  refine lv_istore_n (lv' := [(3, .int (eb true)), (2, .int (nI 0)), (0, .ref (q 0)), (1, .int (nI a))]) hx hb dX1_runs_10 rfl hl (by decide) rfl (fun ls hl => ?_)
  refine lv_iconst (v := nI 0) hx hb dX1_runs_11 (by decide +kernel) ?_
  refine lv_istore (lv' := [(4, .int (nI 0)), (3, .int (eb true)), (2, .int (nI 0)), (0, .ref (q 0)), (1, .int (nI a))]) hx hb dX1_runs_12 hl (by decide) rfl (fun ls hl => ?_)
  exact loop (n + 1) 0 H locs _ (by omega) (by omega) hP hS (lv_sub hl [3, 4, 2, 1, 0] rfl)
set_option maxHeartbeats 4000000 in
set_option maxRecDepth 100000 in
theorem c_X1_runs_no1 (l : Launch) (D : va_G) (cI cJ : ClassId) (q : Nat → Nat) (n : Nat) (mk lt tg : Nat → Int32) (pa an kn : Nat → Int64) (row : Nat → Int32) (len thr : Int32) (x : Int32) (hbad : bad 4 x) : eg_MW D (tyL cI cJ) l yX1_runs wsX1_runs ({ frames := 2, cells := 0, slots := 0, locals := 42 }) 0 0 [.ref (q 0), .int x] (wM q cI cJ (nI n) mk lt tg pa an kn row len thr) (fun r w1 => ∃ (row' : Nat → Int32) (len' : Int32), r = some (.int (nI 0)) ∧ w1 = wM q cI cJ (nI n) mk lt tg pa an kn row' len' (nI 1)) := by
  refine Met.ofW (cc := cX1_runs) (maxL := 5) (ret := (some .int)) (by decide) rfl ?_
  intro p e s m args below meth c s₁ B hml hv
  obtain ⟨rfl, hP, hK, hD0⟩ := hv
  have hx := B.exec
  have hb := B.bytes
  have hr := B.returns
  have hts := atoms_spec (ws := wsX1_runs) B.pre
  have hown : s.vm.findClass RX1 = some m.cls := findClass_of_methodNamed B.named
  have hlocks := B.notSynchronized
  have hD := eg_D_of hD0
  have hS : va_S (eg_A (wM q cI cJ (nI n) mk lt tg pa an kn row len thr)) s.heap s.heap [] := va_S.rf
  have hin : ∀ w ∈ u_ws RX1 TX1 10, w ∈ wsX1_runs := by decide +kernel
  have hl := lv_entry ([.ref (q 0), .int x]) (n := 5) (Nat.le_of_ble_eq_true rfl)
  rw [lg_entry_eq]
  generalize (lg_sl ([.ref (q 0), .int x]) ++ List.replicate (5 - (lg_sl ([.ref (q 0), .int x])).length) Slot.unset).toArray = ls at hl ⊢
  have hl : lv_has ls 5 [(0, .ref (q 0)), (1, .int x)] := hl
  generalize h0H : s.heap = H at hP ⊢
  have hS : va_S (eg_A (wM q cI cJ (nI n) mk lt tg pa an kn row len thr)) s.heap H [] := by rw [← h0H]; exact hS
  generalize ([] : List Loc) = locs at hS ⊢
  refine lv_iconst (v := nI 0) hx hb dX1_runs_0 (by decide +kernel) ?_
  refine lv_istore_n (lv' := [(2, .int (nI 0)), (0, .ref (q 0)), (1, .int x)]) hx hb dX1_runs_1 rfl hl (by decide) rfl (fun ls hl => ?_)
  refine lv_aload_n hx hb dX1_runs_2 rfl (lv_at hl 1 rfl) ?_
  refine lv_iload_n hx hb dX1_runs_3 rfl (lv_at hl 2 rfl) ?_
  refine eg_callS (As := [.int x]) (rest := [.ref (q 0)]) hx hb hml hown hts hK (c_X1_isAuthor l D cI cJ x ) (va_cwS 1 hts gX1_runs_X1_isAuthor rfl rfl rfl (by decide +kernel) ⟨Nat.le_of_ble_eq_true rfl, Nat.le_of_ble_eq_true rfl⟩) rfl hl.1 rfl (Nat.le_of_ble_eq_true rfl) dX1_runs_4 ⟨Nat.zero_le _, Nat.zero_le _⟩ ?_
  rw [show ev 4 x = false from bad_ev hbad]
  refine eg_callWV (As := [.int (eb false)]) (rest := []) hx hb hml hown hts hK hP hD rfl hS (c_X1_asked_f l D cI cJ q n mk lt tg pa an kn row len thr  ) (cwV 1 hts gX1_runs_X1_asked rfl rfl rfl (by decide +kernel) ⟨Nat.le_of_ble_eq_true rfl, Nat.le_of_ble_eq_true rfl⟩) (va_recv hK hP (ci := 1) (q0 := 0) rfl rfl) rfl hl.1 rfl (Nat.le_of_ble_eq_true rfl) dX1_runs_7 ⟨Nat.zero_le _, Nat.zero_le _⟩ (fun v9 w9 H locs hR9 hw9 hP hS => ?_)
  obtain ⟨rfl, rfl⟩ := hR9
  refine lv_istore_n (lv' := [(3, .int (eb false)), (2, .int (nI 0)), (0, .ref (q 0)), (1, .int x)]) hx hb dX1_runs_10 rfl hl (by decide) rfl (fun ls hl => ?_)
  refine lv_iconst (v := nI 0) hx hb dX1_runs_11 (by decide +kernel) ?_
  refine lv_istore (lv' := [(4, .int (nI 0)), (3, .int (eb false)), (2, .int (nI 0)), (0, .ref (q 0)), (1, .int x)]) hx hb dX1_runs_12 hl (by decide) rfl (fun ls hl => ?_)
  refine lv_iload_n hx hb dX1_runs_14 rfl (lv_at hl 1 rfl) ?_
  refine eg_ifeq_b (tgt := 64) hx hb dX1_runs_15 (by decide) (fun _ => ?_) (fun h => Bool.noConfusion h)
  refine lv_iload_n hx hb dX1_runs_64 rfl (lv_at hl 2 rfl) ?_
  exact W.iret hx hb hr (fun t9 ht9 _ => ⟨some (.int (nI 0)), (wM q cI cJ (nI n) mk lt tg pa an kn row len (nI 1)), rfl, ⟨_, _, rfl, rfl⟩, rfl, by rw [ht9]; exact hP, hS.F ht9⟩) hS.2.2 dX1_runs_65
set_option maxHeartbeats 4000000 in
set_option maxRecDepth 100000 in
theorem c_X1_concurrent (l : Launch) (D : va_G) (cI cJ : ClassId) (q : Nat → Nat) (n : Nat) (mk lt tg : Nat → Int32) (pa an kn : Nat → Int64) (row : Nat → Int32) (len thr : Int32) (a : Nat) (hI : Inv n lt tg an kn) (ha : a < 4) : eg_MW D (tyL cI cJ) l yX1_concurrent wsX1_concurrent ({ frames := 2, cells := 0, slots := 0, locals := 44 }) 0 0 [.ref (q 0), .int (nI a)] (wM q cI cJ (nI n) mk lt tg pa an kn row len thr) (fun r w1 => r = some (.int (nI (cM an (kn a) n))) ∧ w1 = wM q cI cJ (nI n) mk lt tg pa an kn row len (nI 0)) := by
  have hI1 := hI.1
  refine Met.ofW (cc := cX1_concurrent) (maxL := 6) (ret := (some .int)) (by decide) rfl ?_
  intro p e s m args below meth c s₁ B hml hv
  obtain ⟨rfl, hP, hK, hD0⟩ := hv
  have hx := B.exec
  have hb := B.bytes
  have hr := B.returns
  have hts := atoms_spec (ws := wsX1_concurrent) B.pre
  have hown : s.vm.findClass RX1 = some m.cls := findClass_of_methodNamed B.named
  have hlocks := B.notSynchronized
  have hD := eg_D_of hD0
  have hS : va_S (eg_A (wM q cI cJ (nI n) mk lt tg pa an kn row len thr)) s.heap s.heap [] := va_S.rf
  have hin : ∀ w ∈ u_ws RX1 TX1 10, w ∈ wsX1_concurrent := by decide +kernel
  have hl := lv_entry ([.ref (q 0), .int (nI a)]) (n := 6) (Nat.le_of_ble_eq_true rfl)
  rw [lg_entry_eq]
  generalize (lg_sl ([.ref (q 0), .int (nI a)]) ++ List.replicate (6 - (lg_sl ([.ref (q 0), .int (nI a)])).length) Slot.unset).toArray = ls at hl ⊢
  have hl : lv_has ls 6 [(0, .ref (q 0)), (1, .int (nI a))] := hl
  generalize h0H : s.heap = H at hP ⊢
  have hS : va_S (eg_A (wM q cI cJ (nI n) mk lt tg pa an kn row len thr)) s.heap H [] := by rw [← h0H]; exact hS
  generalize ([] : List Loc) = locs at hS ⊢
  have loop : ∀ (f i : Nat) (H : Heap) (locs : List Loc) (ls : Array Slot), n < i + f → i ≤ n → va_P D vwCl (wM q cI cJ (nI n) mk lt tg pa an kn row len (nI 0)) H → va_S (eg_A (wM q cI cJ (nI n) mk lt tg pa an kn row len thr)) s.heap H locs → lv_has ls 6 [(0, .ref (q 0)), (1, .int (nI a)), (2, .int (nI (cM an (kn a) i))), (3, .int (eb true)), (4, .int (nI i))] → W p l e (headSpec wsX1_concurrent ({ frames := 2, cells := 0, slots := 0, locals := 44 })).room s m ([.ref (q 0), .int (nI a)] : List Value).toArray below meth c H locs 0 0 (MQ below (eg_Wq D (wM q cI cJ (nI n) mk lt tg pa an kn row len thr) (fun r w1 => r = some (.int (nI (cM an (kn a) n))) ∧ w1 = wM q cI cJ (nI n) mk lt tg pa an kn row len (nI 0))) ([.ref (q 0), .int (nI a)] : List Value).toArray s 0 0 (eg_A (wM q cI cJ (nI n) mk lt tg pa an kn row len thr))) (F0 m 14 ls []) := by
    intro f
    induction f with
    | zero => intro i  H locs ls h1 h2 hP hS hl; omega
    | succ f ih =>
      intro i  H locs ls h1 h2 hP hS hl
      refine lv_iload_n hx hb dX1_concurrent_14 rfl (lv_at hl 3 rfl) ?_
      refine eg_ifeq_b (tgt := 96) hx hb dX1_concurrent_15 (by decide) (fun h => Bool.noConfusion h) (fun _ => ?_)
      refine lv_iload hx hb dX1_concurrent_18 (lv_at hl 4 rfl) ?_
      refine lv_aload_n hx hb dX1_concurrent_20 rfl (lv_at hl 0 rfl) ?_
      refine va_get (D := D) (ci := 1) (v := .int (nI n)) (C := RX1) (T := TX1) (N := 10) hx hb hts hin hown hK hP 0 rfl rfl 5 (by decide) (hts (.fieldLink RX1 40 "EditGraphModel" "events" "I") (by decide +kernel)) (fun _ h9 => h9) rfl dX1_concurrent_21 ?_
      refine eg_icmp_ge (tgt := 96) hx hb dX1_concurrent_24 (by decide) (by omega) (by omega) (fun c24 => ?_) (fun c24 => ?_)
      · refine lv_iload_n hx hb dX1_concurrent_96 rfl (lv_at hl 2 rfl) ?_
        have ein : i = n := by omega
        exact W.iret hx hb hr (fun t9 ht9 _ => ⟨some (.int (nI (cM an (kn a) i))), (wM q cI cJ (nI n) mk lt tg pa an kn row len (nI 0)), rfl, ⟨by rw [ein], rfl⟩, rfl, by rw [ht9]; exact hP, hS.F ht9⟩) hS.2.2 dX1_concurrent_97
      · refine lv_iconst (v := nI 0) hx hb dX1_concurrent_27 (by decide +kernel) ?_
        refine lv_istore (lv' := [(5, .int (nI 0)), (0, .ref (q 0)), (1, .int (nI a)), (2, .int (nI (cM an (kn a) i))), (3, .int (eb true)), (4, .int (nI i))]) hx hb dX1_concurrent_28 hl (by decide) rfl (fun ls hl => ?_)
        have loopI : ∀ (f : Nat) (m9 : Nat) (ls : Array Slot), i < m9 + f → m9 ≤ i → lv_has ls 6 [(0, .ref (q 0)), (1, .int (nI a)), (2, .int (nI (cM an (kn a) i + cM1 an (kn a) i m9))), (3, .int (eb true)), (4, .int (nI i)), (5, .int (nI m9))] → W p l e (headSpec wsX1_concurrent ({ frames := 2, cells := 0, slots := 0, locals := 44 })).room s m ([.ref (q 0), .int (nI a)] : List Value).toArray below meth c H locs 0 0 (MQ below (eg_Wq D (wM q cI cJ (nI n) mk lt tg pa an kn row len thr) (fun r w1 => r = some (.int (nI (cM an (kn a) n))) ∧ w1 = wM q cI cJ (nI n) mk lt tg pa an kn row len (nI 0))) ([.ref (q 0), .int (nI a)] : List Value).toArray s 0 0 (eg_A (wM q cI cJ (nI n) mk lt tg pa an kn row len thr))) (F0 m 30 ls []) := by
          intro f
          induction f with
          | zero => intro m9 ls g1 g2 hl; omega
          | succ f ihI =>
            intro m9 ls g1 g2 hl
            refine lv_iload hx hb dX1_concurrent_30 (lv_at hl 5 rfl) ?_
            refine lv_iload hx hb dX1_concurrent_32 (lv_at hl 4 rfl) ?_
            refine eg_icmp_ge (tgt := 90) hx hb dX1_concurrent_34 (by decide) (by omega) (by omega) (fun c34 => ?_) (fun c34 => ?_)
            · refine lv_iinc (v := nI (i + 1)) (lv' := [(4, .int (nI (i + 1))), (0, .ref (q 0)), (1, .int (nI a)), (2, .int (nI (cM an (kn a) i + cM1 an (kn a) i m9))), (3, .int (eb true)), (5, .int (nI m9))]) hx hb dX1_concurrent_90 hl (k := 4) rfl (eg_inc1 _) (by decide) rfl (fun ls hl => ?_)
              refine lv_goto (tgt := 14) hx hb dX1_concurrent_93 (by decide) ?_
              have eA : cM an (kn a) (i + 1) = cM an (kn a) i + cM1 an (kn a) i m9 := by rw [cM, show m9 = i by omega]
              exact ih (i + 1) H locs _ (by omega) (by omega) hP hS (by rw [eA]; exact lv_sub hl [1, 2, 3, 4, 0] rfl)
            · refine lv_iload_n hx hb dX1_concurrent_37 rfl (lv_at hl 2 rfl) ?_
              refine lv_aload_n hx hb dX1_concurrent_38 rfl (lv_at hl 0 rfl) ?_
              refine va_get (D := D) (ci := 1) (v := .ref (q 6)) (C := RX1) (T := TX1) (N := 10) hx hb hts hin hown hK hP 0 rfl rfl 6 (by decide) (hts (.fieldLink RX1 26 "EditGraphModel" "knows" "[J") (by decide +kernel)) (fun _ h9 => h9) rfl dX1_concurrent_39 ?_
              refine lv_iload_n hx hb dX1_concurrent_42 rfl (lv_at hl 1 rfl) ?_
              refine eg_lald hx hb hK hP 6 1 rfl rfl (by omega) (by decide) dX1_concurrent_43 ?_
              refine lv_iload hx hb dX1_concurrent_44 (lv_at hl 4 rfl) ?_
              refine eg_callS (As := [.long (kn a), .int (nI i)]) (rest := [.int (nI (cM an (kn a) i + cM1 an (kn a) i m9))]) hx hb hml hown hts hK (c_X1_has l D cI cJ (kn a) i (by omega)) (va_cwS 2 hts gX1_concurrent_X1_has rfl rfl rfl (by decide +kernel) ⟨Nat.le_of_ble_eq_true rfl, Nat.le_of_ble_eq_true rfl⟩) rfl hl.1 rfl (Nat.le_of_ble_eq_true rfl) dX1_concurrent_46 ⟨Nat.zero_le _, Nat.zero_le _⟩ ?_
              refine eg_ifeq_b (tgt := 81) hx hb dX1_concurrent_49 (by decide) (fun c49 => ?_) (fun c49 => ?_)
              · refine lv_iconst (v := nI 0) hx hb dX1_concurrent_81 (by decide +kernel) ?_
                refine eg_iadd hx hb dX1_concurrent_82 ?_
                refine lv_istore_n (lv' := [(2, .int (nI (cM an (kn a) i + cM1 an (kn a) i m9 + 0))), (0, .ref (q 0)), (1, .int (nI a)), (3, .int (eb true)), (4, .int (nI i)), (5, .int (nI m9))]) hx hb dX1_concurrent_83 rfl hl (by decide) rfl (fun ls hl => ?_)
                refine lv_iinc (v := nI (m9 + 1)) (lv' := [(5, .int (nI (m9 + 1))), (2, .int (nI (cM an (kn a) i + cM1 an (kn a) i m9 + 0))), (0, .ref (q 0)), (1, .int (nI a)), (3, .int (eb true)), (4, .int (nI i))]) hx hb dX1_concurrent_84 hl (k := 5) rfl (eg_inc1 _) (by decide) rfl (fun ls hl => ?_)
                refine lv_goto (tgt := 30) hx hb dX1_concurrent_87 (by decide) ?_
                have eA : cM an (kn a) i + cM1 an (kn a) i (m9 + 1) = cM an (kn a) i + cM1 an (kn a) i m9 + 0 := by first | (rw [cM1, if_pos ⟨c49, c63, c74⟩] <;> omega) | (rw [cM1, if_neg (fun h => Bool.noConfusion (c49.symm.trans h.1))] <;> omega) | (rw [cM1, if_neg (fun h => Bool.noConfusion (c63.symm.trans h.2.1))] <;> omega) | (rw [cM1, if_neg (fun h => Bool.noConfusion (c74.symm.trans h.2.2))] <;> omega)
                exact ihI (m9 + 1) _ (by omega) (by omega) (by rw [eA]; exact lv_sub hl [2, 3, 1, 4, 5, 0] rfl)
              · refine lv_aload_n hx hb dX1_concurrent_52 rfl (lv_at hl 0 rfl) ?_
                refine va_get (D := D) (ci := 1) (v := .ref (q 6)) (C := RX1) (T := TX1) (N := 10) hx hb hts hin hown hK hP 0 rfl rfl 6 (by decide) (hts (.fieldLink RX1 26 "EditGraphModel" "knows" "[J") (by decide +kernel)) (fun _ h9 => h9) rfl dX1_concurrent_53 ?_
                refine lv_iload_n hx hb dX1_concurrent_56 rfl (lv_at hl 1 rfl) ?_
                refine eg_lald hx hb hK hP 6 1 rfl rfl (by omega) (by decide) dX1_concurrent_57 ?_
                refine lv_iload hx hb dX1_concurrent_58 (lv_at hl 5 rfl) ?_
                refine eg_callS (As := [.long (kn a), .int (nI m9)]) (rest := [.int (nI (cM an (kn a) i + cM1 an (kn a) i m9))]) hx hb hml hown hts hK (c_X1_has l D cI cJ (kn a) m9 (by omega)) (va_cwS 2 hts gX1_concurrent_X1_has rfl rfl rfl (by decide +kernel) ⟨Nat.le_of_ble_eq_true rfl, Nat.le_of_ble_eq_true rfl⟩) rfl hl.1 rfl (Nat.le_of_ble_eq_true rfl) dX1_concurrent_60 ⟨Nat.zero_le _, Nat.zero_le _⟩ ?_
                refine eg_ifeq_b (tgt := 81) hx hb dX1_concurrent_63 (by decide) (fun c63 => ?_) (fun c63 => ?_)
                · refine lv_iconst (v := nI 0) hx hb dX1_concurrent_81 (by decide +kernel) ?_
                  refine eg_iadd hx hb dX1_concurrent_82 ?_
                  refine lv_istore_n (lv' := [(2, .int (nI (cM an (kn a) i + cM1 an (kn a) i m9 + 0))), (0, .ref (q 0)), (1, .int (nI a)), (3, .int (eb true)), (4, .int (nI i)), (5, .int (nI m9))]) hx hb dX1_concurrent_83 rfl hl (by decide) rfl (fun ls hl => ?_)
                  refine lv_iinc (v := nI (m9 + 1)) (lv' := [(5, .int (nI (m9 + 1))), (2, .int (nI (cM an (kn a) i + cM1 an (kn a) i m9 + 0))), (0, .ref (q 0)), (1, .int (nI a)), (3, .int (eb true)), (4, .int (nI i))]) hx hb dX1_concurrent_84 hl (k := 5) rfl (eg_inc1 _) (by decide) rfl (fun ls hl => ?_)
                  refine lv_goto (tgt := 30) hx hb dX1_concurrent_87 (by decide) ?_
                  have eA : cM an (kn a) i + cM1 an (kn a) i (m9 + 1) = cM an (kn a) i + cM1 an (kn a) i m9 + 0 := by first | (rw [cM1, if_pos ⟨c49, c63, c74⟩] <;> omega) | (rw [cM1, if_neg (fun h => Bool.noConfusion (c49.symm.trans h.1))] <;> omega) | (rw [cM1, if_neg (fun h => Bool.noConfusion (c63.symm.trans h.2.1))] <;> omega) | (rw [cM1, if_neg (fun h => Bool.noConfusion (c74.symm.trans h.2.2))] <;> omega)
                  exact ihI (m9 + 1) _ (by omega) (by omega) (by rw [eA]; exact lv_sub hl [2, 3, 1, 4, 5, 0] rfl)
                · refine lv_aload_n hx hb dX1_concurrent_66 rfl (lv_at hl 0 rfl) ?_
                  refine lv_iload hx hb dX1_concurrent_67 (lv_at hl 5 rfl) ?_
                  refine lv_iload hx hb dX1_concurrent_69 (lv_at hl 4 rfl) ?_
                  refine eg_callV (As := [.int (nI m9), .int (nI i)]) (rest := [.int (nI (cM an (kn a) i + cM1 an (kn a) i m9))]) hx hb hml hown hts hK hP (c_X1_areConcurrent l D cI cJ q n mk lt tg pa an kn row len (nI 0) m9 i (by omega) (by omega)) (cwV 2 hts gX1_concurrent_X1_areConcurrent rfl rfl rfl (by decide +kernel) ⟨Nat.le_of_ble_eq_true rfl, Nat.le_of_ble_eq_true rfl⟩) (va_recv hK hP (ci := 1) (q0 := 0) rfl rfl) rfl hl.1 rfl (Nat.le_of_ble_eq_true rfl) dX1_concurrent_71 ⟨Nat.zero_le _, Nat.zero_le _⟩ ?_
                  refine eg_ifeq_b (tgt := 81) hx hb dX1_concurrent_74 (by decide) (fun c74 => ?_) (fun c74 => ?_)
                  · refine lv_iconst (v := nI 0) hx hb dX1_concurrent_81 (by decide +kernel) ?_
                    refine eg_iadd hx hb dX1_concurrent_82 ?_
                    refine lv_istore_n (lv' := [(2, .int (nI (cM an (kn a) i + cM1 an (kn a) i m9 + 0))), (0, .ref (q 0)), (1, .int (nI a)), (3, .int (eb true)), (4, .int (nI i)), (5, .int (nI m9))]) hx hb dX1_concurrent_83 rfl hl (by decide) rfl (fun ls hl => ?_)
                    refine lv_iinc (v := nI (m9 + 1)) (lv' := [(5, .int (nI (m9 + 1))), (2, .int (nI (cM an (kn a) i + cM1 an (kn a) i m9 + 0))), (0, .ref (q 0)), (1, .int (nI a)), (3, .int (eb true)), (4, .int (nI i))]) hx hb dX1_concurrent_84 hl (k := 5) rfl (eg_inc1 _) (by decide) rfl (fun ls hl => ?_)
                    refine lv_goto (tgt := 30) hx hb dX1_concurrent_87 (by decide) ?_
                    have eA : cM an (kn a) i + cM1 an (kn a) i (m9 + 1) = cM an (kn a) i + cM1 an (kn a) i m9 + 0 := by first | (rw [cM1, if_pos ⟨c49, c63, c74⟩] <;> omega) | (rw [cM1, if_neg (fun h => Bool.noConfusion (c49.symm.trans h.1))] <;> omega) | (rw [cM1, if_neg (fun h => Bool.noConfusion (c63.symm.trans h.2.1))] <;> omega) | (rw [cM1, if_neg (fun h => Bool.noConfusion (c74.symm.trans h.2.2))] <;> omega)
                    exact ihI (m9 + 1) _ (by omega) (by omega) (by rw [eA]; exact lv_sub hl [2, 3, 1, 4, 5, 0] rfl)
                  · refine lv_iconst (v := nI 1) hx hb dX1_concurrent_77 (by decide +kernel) ?_
                    refine lv_goto (tgt := 82) hx hb dX1_concurrent_78 (by decide) ?_
                    refine eg_iadd hx hb dX1_concurrent_82 ?_
                    refine lv_istore_n (lv' := [(2, .int (nI (cM an (kn a) i + cM1 an (kn a) i m9 + 1))), (0, .ref (q 0)), (1, .int (nI a)), (3, .int (eb true)), (4, .int (nI i)), (5, .int (nI m9))]) hx hb dX1_concurrent_83 rfl hl (by decide) rfl (fun ls hl => ?_)
                    refine lv_iinc (v := nI (m9 + 1)) (lv' := [(5, .int (nI (m9 + 1))), (2, .int (nI (cM an (kn a) i + cM1 an (kn a) i m9 + 1))), (0, .ref (q 0)), (1, .int (nI a)), (3, .int (eb true)), (4, .int (nI i))]) hx hb dX1_concurrent_84 hl (k := 5) rfl (eg_inc1 _) (by decide) rfl (fun ls hl => ?_)
                    refine lv_goto (tgt := 30) hx hb dX1_concurrent_87 (by decide) ?_
                    have eA : cM an (kn a) i + cM1 an (kn a) i (m9 + 1) = cM an (kn a) i + cM1 an (kn a) i m9 + 1 := by first | (rw [cM1, if_pos ⟨c49, c63, c74⟩] <;> omega) | (rw [cM1, if_neg (fun h => Bool.noConfusion (c49.symm.trans h.1))] <;> omega) | (rw [cM1, if_neg (fun h => Bool.noConfusion (c63.symm.trans h.2.1))] <;> omega) | (rw [cM1, if_neg (fun h => Bool.noConfusion (c74.symm.trans h.2.2))] <;> omega)
                    exact ihI (m9 + 1) _ (by omega) (by omega) (by rw [eA]; exact lv_sub hl [2, 3, 1, 4, 5, 0] rfl)
        exact loopI (i + 1) 0 _ (by omega) (by omega) (lv_sub hl [1, 2, 3, 4, 5, 0] rfl)
  refine lv_iconst (v := nI 0) hx hb dX1_concurrent_0 (by decide +kernel) ?_
  refine lv_istore_n (lv' := [(2, .int (nI 0)), (0, .ref (q 0)), (1, .int (nI a))]) hx hb dX1_concurrent_1 rfl hl (by decide) rfl (fun ls hl => ?_)
  refine lv_aload_n hx hb dX1_concurrent_2 rfl (lv_at hl 1 rfl) ?_
  refine lv_iload_n hx hb dX1_concurrent_3 rfl (lv_at hl 2 rfl) ?_
  refine eg_callS (As := [.int (nI a)]) (rest := [.ref (q 0)]) hx hb hml hown hts hK (c_X1_isAuthor l D cI cJ (nI a) ) (va_cwS 1 hts gX1_concurrent_X1_isAuthor rfl rfl rfl (by decide +kernel) ⟨Nat.le_of_ble_eq_true rfl, Nat.le_of_ble_eq_true rfl⟩) rfl hl.1 rfl (Nat.le_of_ble_eq_true rfl) dX1_concurrent_4 ⟨Nat.zero_le _, Nat.zero_le _⟩ ?_
  rw [show ev 4 (nI a) = true from ev_nI (by decide) ha]
  refine eg_callWV (As := [.int (eb true)]) (rest := []) hx hb hml hown hts hK hP hD rfl hS (c_X1_asked_t l D cI cJ q n mk lt tg pa an kn row len thr  ) (cwV 1 hts gX1_concurrent_X1_asked rfl rfl rfl (by decide +kernel) ⟨Nat.le_of_ble_eq_true rfl, Nat.le_of_ble_eq_true rfl⟩) (va_recv hK hP (ci := 1) (q0 := 0) rfl rfl) rfl hl.1 rfl (Nat.le_of_ble_eq_true rfl) dX1_concurrent_7 ⟨Nat.zero_le _, Nat.zero_le _⟩ (fun v9 w9 H locs hR9 hw9 hP hS => ?_)
  obtain ⟨rfl, rfl⟩ := hR9
  refine lv_istore_n (lv' := [(3, .int (eb true)), (2, .int (nI 0)), (0, .ref (q 0)), (1, .int (nI a))]) hx hb dX1_concurrent_10 rfl hl (by decide) rfl (fun ls hl => ?_)
  refine lv_iconst (v := nI 0) hx hb dX1_concurrent_11 (by decide +kernel) ?_
  refine lv_istore (lv' := [(4, .int (nI 0)), (3, .int (eb true)), (2, .int (nI 0)), (0, .ref (q 0)), (1, .int (nI a))]) hx hb dX1_concurrent_12 hl (by decide) rfl (fun ls hl => ?_)
  exact loop (n + 1) 0 H locs _ (by omega) (by omega) hP hS (lv_sub hl [3, 4, 2, 1, 0] rfl)
set_option maxHeartbeats 4000000 in
set_option maxRecDepth 100000 in
theorem c_X1_concurrent_no1 (l : Launch) (D : va_G) (cI cJ : ClassId) (q : Nat → Nat) (n : Nat) (mk lt tg : Nat → Int32) (pa an kn : Nat → Int64) (row : Nat → Int32) (len thr : Int32) (x : Int32) (hbad : bad 4 x) : eg_MW D (tyL cI cJ) l yX1_concurrent wsX1_concurrent ({ frames := 2, cells := 0, slots := 0, locals := 42 }) 0 0 [.ref (q 0), .int x] (wM q cI cJ (nI n) mk lt tg pa an kn row len thr) (fun r w1 => ∃ (row' : Nat → Int32) (len' : Int32), r = some (.int (nI 0)) ∧ w1 = wM q cI cJ (nI n) mk lt tg pa an kn row' len' (nI 1)) := by
  refine Met.ofW (cc := cX1_concurrent) (maxL := 6) (ret := (some .int)) (by decide) rfl ?_
  intro p e s m args below meth c s₁ B hml hv
  obtain ⟨rfl, hP, hK, hD0⟩ := hv
  have hx := B.exec
  have hb := B.bytes
  have hr := B.returns
  have hts := atoms_spec (ws := wsX1_concurrent) B.pre
  have hown : s.vm.findClass RX1 = some m.cls := findClass_of_methodNamed B.named
  have hlocks := B.notSynchronized
  have hD := eg_D_of hD0
  have hS : va_S (eg_A (wM q cI cJ (nI n) mk lt tg pa an kn row len thr)) s.heap s.heap [] := va_S.rf
  have hin : ∀ w ∈ u_ws RX1 TX1 10, w ∈ wsX1_concurrent := by decide +kernel
  have hl := lv_entry ([.ref (q 0), .int x]) (n := 6) (Nat.le_of_ble_eq_true rfl)
  rw [lg_entry_eq]
  generalize (lg_sl ([.ref (q 0), .int x]) ++ List.replicate (6 - (lg_sl ([.ref (q 0), .int x])).length) Slot.unset).toArray = ls at hl ⊢
  have hl : lv_has ls 6 [(0, .ref (q 0)), (1, .int x)] := hl
  generalize h0H : s.heap = H at hP ⊢
  have hS : va_S (eg_A (wM q cI cJ (nI n) mk lt tg pa an kn row len thr)) s.heap H [] := by rw [← h0H]; exact hS
  generalize ([] : List Loc) = locs at hS ⊢
  refine lv_iconst (v := nI 0) hx hb dX1_concurrent_0 (by decide +kernel) ?_
  refine lv_istore_n (lv' := [(2, .int (nI 0)), (0, .ref (q 0)), (1, .int x)]) hx hb dX1_concurrent_1 rfl hl (by decide) rfl (fun ls hl => ?_)
  refine lv_aload_n hx hb dX1_concurrent_2 rfl (lv_at hl 1 rfl) ?_
  refine lv_iload_n hx hb dX1_concurrent_3 rfl (lv_at hl 2 rfl) ?_
  refine eg_callS (As := [.int x]) (rest := [.ref (q 0)]) hx hb hml hown hts hK (c_X1_isAuthor l D cI cJ x ) (va_cwS 1 hts gX1_concurrent_X1_isAuthor rfl rfl rfl (by decide +kernel) ⟨Nat.le_of_ble_eq_true rfl, Nat.le_of_ble_eq_true rfl⟩) rfl hl.1 rfl (Nat.le_of_ble_eq_true rfl) dX1_concurrent_4 ⟨Nat.zero_le _, Nat.zero_le _⟩ ?_
  rw [show ev 4 x = false from bad_ev hbad]
  refine eg_callWV (As := [.int (eb false)]) (rest := []) hx hb hml hown hts hK hP hD rfl hS (c_X1_asked_f l D cI cJ q n mk lt tg pa an kn row len thr  ) (cwV 1 hts gX1_concurrent_X1_asked rfl rfl rfl (by decide +kernel) ⟨Nat.le_of_ble_eq_true rfl, Nat.le_of_ble_eq_true rfl⟩) (va_recv hK hP (ci := 1) (q0 := 0) rfl rfl) rfl hl.1 rfl (Nat.le_of_ble_eq_true rfl) dX1_concurrent_7 ⟨Nat.zero_le _, Nat.zero_le _⟩ (fun v9 w9 H locs hR9 hw9 hP hS => ?_)
  obtain ⟨rfl, rfl⟩ := hR9
  refine lv_istore_n (lv' := [(3, .int (eb false)), (2, .int (nI 0)), (0, .ref (q 0)), (1, .int x)]) hx hb dX1_concurrent_10 rfl hl (by decide) rfl (fun ls hl => ?_)
  refine lv_iconst (v := nI 0) hx hb dX1_concurrent_11 (by decide +kernel) ?_
  refine lv_istore (lv' := [(4, .int (nI 0)), (3, .int (eb false)), (2, .int (nI 0)), (0, .ref (q 0)), (1, .int x)]) hx hb dX1_concurrent_12 hl (by decide) rfl (fun ls hl => ?_)
  refine lv_iload_n hx hb dX1_concurrent_14 rfl (lv_at hl 1 rfl) ?_
  refine eg_ifeq_b (tgt := 96) hx hb dX1_concurrent_15 (by decide) (fun _ => ?_) (fun h => Bool.noConfusion h)
  refine lv_iload_n hx hb dX1_concurrent_96 rfl (lv_at hl 2 rfl) ?_
  exact W.iret hx hb hr (fun t9 ht9 _ => ⟨some (.int (nI 0)), (wM q cI cJ (nI n) mk lt tg pa an kn row len (nI 1)), rfl, ⟨_, _, rfl, rfl⟩, rfl, by rw [ht9]; exact hP, hS.F ht9⟩) hS.2.2 dX1_concurrent_97
set_option maxHeartbeats 4000000 in
set_option maxRecDepth 100000 in
theorem c_X1_lettersBy (l : Launch) (D : va_G) (cI cJ : ClassId) (q : Nat → Nat) (n : Nat) (mk lt tg : Nat → Int32) (pa an kn : Nat → Int64) (row : Nat → Int32) (len thr : Int32) (a : Nat) (b : Nat) (hI : Inv n lt tg an kn) (ha : a < 4) (hb4 : b < 4) : eg_MW D (tyL cI cJ) l yX1_lettersBy wsX1_lettersBy ({ frames := 2, cells := 0, slots := 0, locals := 48 }) 0 0 [.ref (q 0), .int (nI a), .int (nI b)] (wM q cI cJ (nI n) mk lt tg pa an kn row len thr) (fun r w1 => ∃ (row' : Nat → Int32) (len' : Int32), r = some (.int (nI (ct (fun j => decide (mk ((tx n lt tg (kn a)).getD j 0) = nI b)) (tx n lt tg (kn a)).length))) ∧ w1 = wM q cI cJ (nI n) mk lt tg pa an kn row' len' (nI 0)) := by
  refine Met.ofW (cc := cX1_lettersBy) (maxL := 6) (ret := (some .int)) (by decide) rfl ?_
  intro p e s m args below meth c s₁ B hml hv
  obtain ⟨rfl, hP, hK, hD0⟩ := hv
  have hx := B.exec
  have hb := B.bytes
  have hr := B.returns
  have hts := atoms_spec (ws := wsX1_lettersBy) B.pre
  have hown : s.vm.findClass RX1 = some m.cls := findClass_of_methodNamed B.named
  have hlocks := B.notSynchronized
  have hD := eg_D_of hD0
  have hS : va_S (eg_A (wM q cI cJ (nI n) mk lt tg pa an kn row len thr)) s.heap s.heap [] := va_S.rf
  have hin : ∀ w ∈ u_ws RX1 TX1 10, w ∈ wsX1_lettersBy := by decide +kernel
  have hl := lv_entry ([.ref (q 0), .int (nI a), .int (nI b)]) (n := 6) (Nat.le_of_ble_eq_true rfl)
  rw [lg_entry_eq]
  generalize (lg_sl ([.ref (q 0), .int (nI a), .int (nI b)]) ++ List.replicate (6 - (lg_sl ([.ref (q 0), .int (nI a), .int (nI b)])).length) Slot.unset).toArray = ls at hl ⊢
  have hl : lv_has ls 6 [(0, .ref (q 0)), (1, .int (nI a)), (2, .int (nI b))] := hl
  generalize h0H : s.heap = H at hP ⊢
  have hS : va_S (eg_A (wM q cI cJ (nI n) mk lt tg pa an kn row len thr)) s.heap H [] := by rw [← h0H]; exact hS
  generalize ([] : List Loc) = locs at hS ⊢
  refine lv_iconst (v := nI 0) hx hb dX1_lettersBy_0 (by decide +kernel) ?_
  refine lv_istore_n (lv' := [(3, .int (nI 0)), (0, .ref (q 0)), (1, .int (nI a)), (2, .int (nI b))]) hx hb dX1_lettersBy_1 rfl hl (by decide) rfl (fun ls hl => ?_)
  refine lv_aload_n hx hb dX1_lettersBy_2 rfl (lv_at hl 1 rfl) ?_
  refine lv_iload_n hx hb dX1_lettersBy_3 rfl (lv_at hl 2 rfl) ?_
  refine eg_callS (As := [.int (nI a)]) (rest := [.ref (q 0)]) hx hb hml hown hts hK (c_X1_isAuthor l D cI cJ (nI a) ) (va_cwS 1 hts gX1_lettersBy_X1_isAuthor rfl rfl rfl (by decide +kernel) ⟨Nat.le_of_ble_eq_true rfl, Nat.le_of_ble_eq_true rfl⟩) rfl hl.1 rfl (Nat.le_of_ble_eq_true rfl) dX1_lettersBy_4 ⟨Nat.zero_le _, Nat.zero_le _⟩ ?_
  rw [show ev 4 (nI a) = true from ev_nI (by decide) ha]
  refine eg_ifeq_b (tgt := 21) hx hb dX1_lettersBy_7 (by decide) (fun h => Bool.noConfusion h) (fun _ => ?_)
  refine lv_iload_n hx hb dX1_lettersBy_10 rfl (lv_at hl 3 rfl) ?_
  refine eg_callS (As := [.int (nI b)]) (rest := [.ref (q 0)]) hx hb hml hown hts hK (c_X1_isAuthor l D cI cJ (nI b) ) (va_cwS 1 hts gX1_lettersBy_X1_isAuthor rfl rfl rfl (by decide +kernel) ⟨Nat.le_of_ble_eq_true rfl, Nat.le_of_ble_eq_true rfl⟩) rfl hl.1 rfl (Nat.le_of_ble_eq_true rfl) dX1_lettersBy_11 ⟨Nat.zero_le _, Nat.zero_le _⟩ ?_
  rw [show ev 4 (nI b) = true from ev_nI (by decide) hb4]
  refine eg_ifeq_b (tgt := 21) hx hb dX1_lettersBy_14 (by decide) (fun h => Bool.noConfusion h) (fun _ => ?_)
  refine lv_iconst (v := nI 1) hx hb dX1_lettersBy_17 (by decide +kernel) ?_
  refine lv_goto (tgt := 22) hx hb dX1_lettersBy_18 (by decide) ?_
  refine eg_callWV (As := [.int (eb true)]) (rest := []) hx hb hml hown hts hK hP hD rfl hS (c_X1_asked_t l D cI cJ q n mk lt tg pa an kn row len thr  ) (cwV 1 hts gX1_lettersBy_X1_asked rfl rfl rfl (by decide +kernel) ⟨Nat.le_of_ble_eq_true rfl, Nat.le_of_ble_eq_true rfl⟩) (va_recv hK hP (ci := 1) (q0 := 0) rfl rfl) rfl hl.1 rfl (Nat.le_of_ble_eq_true rfl) dX1_lettersBy_22 ⟨Nat.zero_le _, Nat.zero_le _⟩ (fun v9 w9 H locs hR9 hw9 hP hS => ?_)
  obtain ⟨rfl, rfl⟩ := hR9
  refine lv_istore (lv' := [(4, .int (eb true)), (3, .int (nI 0)), (0, .ref (q 0)), (1, .int (nI a)), (2, .int (nI b))]) hx hb dX1_lettersBy_25 hl (by decide) rfl (fun ls hl => ?_)
  refine lv_iload hx hb dX1_lettersBy_27 (lv_at hl 0 rfl) ?_
  refine eg_ifeq_b (tgt := 42) hx hb dX1_lettersBy_29 (by decide) (fun h => Bool.noConfusion h) (fun _ => ?_)
  refine lv_aload_n hx hb dX1_lettersBy_32 rfl (lv_at hl 2 rfl) ?_
  refine lv_aload_n hx hb dX1_lettersBy_33 rfl (lv_at hl 2 rfl) ?_
  refine va_get (D := D) (ci := 1) (v := .ref (q 6)) (C := RX1) (T := TX1) (N := 10) hx hb hts hin hown hK hP 0 rfl rfl 6 (by decide) (hts (.fieldLink RX1 26 "EditGraphModel" "knows" "[J") (by decide +kernel)) (fun _ h9 => h9) rfl dX1_lettersBy_34 ?_
  refine lv_iload_n hx hb dX1_lettersBy_37 rfl (lv_at hl 3 rfl) ?_
  refine eg_lald hx hb hK hP 6 1 rfl rfl (by omega) (by decide) dX1_lettersBy_38 ?_
  refine eg_callWV (As := [.long (kn a)]) (rest := []) hx hb hml hown hts hK hP hD rfl hS (c_X1_reads l D cI cJ q n mk lt tg pa an kn row len (nI 0) (kn a) hI.1 (hI.hangV (hI.vk ha))) (cwV 1 hts gX1_lettersBy_X1_reads rfl rfl rfl (by decide +kernel) ⟨Nat.le_of_ble_eq_true rfl, Nat.le_of_ble_eq_true rfl⟩) (va_recv hK hP (ci := 1) (q0 := 0) rfl rfl) rfl hl.1 rfl (Nat.le_of_ble_eq_true rfl) dX1_lettersBy_39 ⟨Nat.zero_le _, Nat.zero_le _⟩ (fun v9 w9 H locs hR9 hw9 hP hS => ?_)
  obtain ⟨row1, rfl, rfl, hh⟩ := hR9
  have hT9 := tx_len hI (hI.vk ha)
  have hI1 := hI.1
  have loop : ∀ (f i : Nat) (H : Heap) (locs : List Loc) (ls : Array Slot), (tx n lt tg (kn a)).length < i + f → i ≤ (tx n lt tg (kn a)).length → va_P D vwCl (wM q cI cJ (nI n) mk lt tg pa an kn row1 (nI (tx n lt tg (kn a)).length) (nI 0)) H → va_S (eg_A (wM q cI cJ (nI n) mk lt tg pa an kn row len thr)) s.heap H locs → lv_has ls 6 [(0, .ref (q 0)), (1, .int (nI a)), (2, .int (nI b)), (3, .int (nI (ct (fun j => decide (mk ((tx n lt tg (kn a)).getD j 0) = nI b)) i))), (4, .int (eb true)), (5, .int (nI i))] → W p l e (headSpec wsX1_lettersBy ({ frames := 2, cells := 0, slots := 0, locals := 48 })).room s m ([.ref (q 0), .int (nI a), .int (nI b)] : List Value).toArray below meth c H locs 0 0 (MQ below (eg_Wq D (wM q cI cJ (nI n) mk lt tg pa an kn row len thr) (fun r w1 => ∃ (row' : Nat → Int32) (len' : Int32), r = some (.int (nI (ct (fun j => decide (mk ((tx n lt tg (kn a)).getD j 0) = nI b)) (tx n lt tg (kn a)).length))) ∧ w1 = wM q cI cJ (nI n) mk lt tg pa an kn row' len' (nI 0))) ([.ref (q 0), .int (nI a), .int (nI b)] : List Value).toArray s 0 0 (eg_A (wM q cI cJ (nI n) mk lt tg pa an kn row len thr))) (F0 m 45 ls []) := by
    intro f
    induction f with
    | zero => intro i  H locs ls h1 h2 hP hS hl; omega
    | succ f ih =>
      intro i  H locs ls h1 h2 hP hS hl
      refine lv_iload hx hb dX1_lettersBy_45 (lv_at hl 4 rfl) ?_
      refine eg_ifeq_b (tgt := 89) hx hb dX1_lettersBy_47 (by decide) (fun h => Bool.noConfusion h) (fun _ => ?_)
      refine lv_iload hx hb dX1_lettersBy_50 (lv_at hl 5 rfl) ?_
      refine lv_aload_n hx hb dX1_lettersBy_52 rfl (lv_at hl 0 rfl) ?_
      refine va_get (D := D) (ci := 1) (v := .int (nI ((tx n lt tg (kn a)).length))) (C := RX1) (T := TX1) (N := 10) hx hb hts hin hown hK hP 0 rfl rfl 8 (by decide) (hts (.fieldLink RX1 49 "EditGraphModel" "length" "I") (by decide +kernel)) (fun _ h9 => h9) rfl dX1_lettersBy_53 ?_
      refine eg_icmp_ge (tgt := 89) hx hb dX1_lettersBy_56 (by decide) (by omega) (by omega) (fun c56 => ?_) (fun c56 => ?_)
      · refine lv_iload_n hx hb dX1_lettersBy_89 rfl (lv_at hl 3 rfl) ?_
        have ein : i = (tx n lt tg (kn a)).length := by omega
        exact W.iret hx hb hr (fun t9 ht9 _ => ⟨some (.int (nI (ct (fun j => decide (mk ((tx n lt tg (kn a)).getD j 0) = nI b)) i))), (wM q cI cJ (nI n) mk lt tg pa an kn row1 (nI (tx n lt tg (kn a)).length) (nI 0)), rfl, ⟨_, _, by rw [ein], rfl⟩, rfl, by rw [ht9]; exact hP, hS.F ht9⟩) hS.2.2 dX1_lettersBy_90
      · refine lv_iload_n hx hb dX1_lettersBy_59 rfl (lv_at hl 3 rfl) ?_
        refine lv_aload_n hx hb dX1_lettersBy_60 rfl (lv_at hl 0 rfl) ?_
        refine va_get (D := D) (ci := 1) (v := .ref (q 1)) (C := RX1) (T := TX1) (N := 10) hx hb hts hin hown hK hP 0 rfl rfl 0 (by decide) (hts (.fieldLink RX1 7 "EditGraphModel" "authorOf" "[I") (by decide +kernel)) (fun _ h9 => h9) rfl dX1_lettersBy_61 ?_
        refine lv_aload_n hx hb dX1_lettersBy_64 rfl (lv_at hl 0 rfl) ?_
        refine va_get (D := D) (ci := 1) (v := .ref (q 7)) (C := RX1) (T := TX1) (N := 10) hx hb hts hin hown hK hP 0 rfl rfl 7 (by decide) (hts (.fieldLink RX1 29 "EditGraphModel" "row" "[I") (by decide +kernel)) (fun _ h9 => h9) rfl dX1_lettersBy_65 ?_
        refine lv_iload hx hb dX1_lettersBy_68 (lv_at hl 5 rfl) ?_
        refine eg_iald hx hb hK hP 7 0 rfl rfl (by omega) (by decide) dX1_lettersBy_70 ?_
        obtain ⟨x9, hx9⟩ := getq c56
        rw [hh _ _ hx9]
        have hxn := (tx_mem (List.mem_of_getElem? hx9)).1
        refine eg_iald hx hb hK hP 1 0 rfl rfl (by omega) (by decide) dX1_lettersBy_71 ?_
        refine lv_iload_n hx hb dX1_lettersBy_72 rfl (lv_at hl 2 rfl) ?_
        refine lv_icmp_ne (tgt := 80) hx hb dX1_lettersBy_73 (by decide) (fun c73 => ?_) (fun c73 => ?_)
        · refine lv_iconst (v := nI 0) hx hb dX1_lettersBy_80 (by decide +kernel) ?_
          refine eg_iadd hx hb dX1_lettersBy_81 ?_
          refine lv_istore_n (lv' := [(3, .int (nI (ct (fun j => decide (mk ((tx n lt tg (kn a)).getD j 0) = nI b)) i + 0))), (0, .ref (q 0)), (1, .int (nI a)), (2, .int (nI b)), (4, .int (eb true)), (5, .int (nI i))]) hx hb dX1_lettersBy_82 rfl hl (by decide) rfl (fun ls hl => ?_)
          refine lv_iinc (v := nI (i + 1)) (lv' := [(5, .int (nI (i + 1))), (3, .int (nI (ct (fun j => decide (mk ((tx n lt tg (kn a)).getD j 0) = nI b)) i + 0))), (0, .ref (q 0)), (1, .int (nI a)), (2, .int (nI b)), (4, .int (eb true))]) hx hb dX1_lettersBy_83 hl (k := 5) rfl (eg_inc1 _) (by decide) rfl (fun ls hl => ?_)
          refine lv_goto (tgt := 45) hx hb dX1_lettersBy_86 (by decide) ?_
          have eA : ct (fun j => decide (mk ((tx n lt tg (kn a)).getD j 0) = nI b)) (i + 1) = ct (fun j => decide (mk ((tx n lt tg (kn a)).getD j 0) = nI b)) i + 0 := by
            have g1 : (tx n lt tg (kn a)).getD i 0 = x9 := by rw [List.getD_eq_getElem?_getD, hx9]; rfl
            show ct (fun j => decide (mk ((tx n lt tg (kn a)).getD j 0) = nI b)) i + (if decide (mk ((tx n lt tg (kn a)).getD i 0) = nI b) = true then 1 else 0) = _
            rw [g1]
            simp [c73]
          exact ih (i + 1) H locs _ (by omega) (by omega) hP hS (by rw [eA]; exact lv_sub hl [2, 3, 4, 1, 5, 0] rfl)
        · refine lv_iconst (v := nI 1) hx hb dX1_lettersBy_76 (by decide +kernel) ?_
          refine lv_goto (tgt := 81) hx hb dX1_lettersBy_77 (by decide) ?_
          refine eg_iadd hx hb dX1_lettersBy_81 ?_
          refine lv_istore_n (lv' := [(3, .int (nI (ct (fun j => decide (mk ((tx n lt tg (kn a)).getD j 0) = nI b)) i + 1))), (0, .ref (q 0)), (1, .int (nI a)), (2, .int (nI b)), (4, .int (eb true)), (5, .int (nI i))]) hx hb dX1_lettersBy_82 rfl hl (by decide) rfl (fun ls hl => ?_)
          refine lv_iinc (v := nI (i + 1)) (lv' := [(5, .int (nI (i + 1))), (3, .int (nI (ct (fun j => decide (mk ((tx n lt tg (kn a)).getD j 0) = nI b)) i + 1))), (0, .ref (q 0)), (1, .int (nI a)), (2, .int (nI b)), (4, .int (eb true))]) hx hb dX1_lettersBy_83 hl (k := 5) rfl (eg_inc1 _) (by decide) rfl (fun ls hl => ?_)
          refine lv_goto (tgt := 45) hx hb dX1_lettersBy_86 (by decide) ?_
          have eA : ct (fun j => decide (mk ((tx n lt tg (kn a)).getD j 0) = nI b)) (i + 1) = ct (fun j => decide (mk ((tx n lt tg (kn a)).getD j 0) = nI b)) i + 1 := by
            have g1 : (tx n lt tg (kn a)).getD i 0 = x9 := by rw [List.getD_eq_getElem?_getD, hx9]; rfl
            show ct (fun j => decide (mk ((tx n lt tg (kn a)).getD j 0) = nI b)) i + (if decide (mk ((tx n lt tg (kn a)).getD i 0) = nI b) = true then 1 else 0) = _
            rw [g1]
            simp [c73]
          exact ih (i + 1) H locs _ (by omega) (by omega) hP hS (by rw [eA]; exact lv_sub hl [2, 3, 4, 1, 5, 0] rfl)
  refine lv_iconst (v := nI 0) hx hb dX1_lettersBy_42 (by decide +kernel) ?_
  refine lv_istore (lv' := [(5, .int (nI 0)), (4, .int (eb true)), (3, .int (nI 0)), (0, .ref (q 0)), (1, .int (nI a)), (2, .int (nI b))]) hx hb dX1_lettersBy_43 hl (by decide) rfl (fun ls hl => ?_)
  exact loop ((tx n lt tg (kn a)).length + 1) 0 H locs _ (by omega) (by omega) hP hS (lv_sub hl [3, 4, 5, 2, 1, 0] rfl)
set_option maxHeartbeats 4000000 in
set_option maxRecDepth 100000 in
theorem c_X1_lettersBy_no1 (l : Launch) (D : va_G) (cI cJ : ClassId) (q : Nat → Nat) (n : Nat) (mk lt tg : Nat → Int32) (pa an kn : Nat → Int64) (row : Nat → Int32) (len thr : Int32) (x : Int32) (y : Int32) (hbad : bad 4 x) : eg_MW D (tyL cI cJ) l yX1_lettersBy wsX1_lettersBy ({ frames := 2, cells := 0, slots := 0, locals := 42 }) 0 0 [.ref (q 0), .int x, .int y] (wM q cI cJ (nI n) mk lt tg pa an kn row len thr) (fun r w1 => ∃ (row' : Nat → Int32) (len' : Int32), r = some (.int (nI 0)) ∧ w1 = wM q cI cJ (nI n) mk lt tg pa an kn row' len' (nI 1)) := by
  refine Met.ofW (cc := cX1_lettersBy) (maxL := 6) (ret := (some .int)) (by decide) rfl ?_
  intro p e s m args below meth c s₁ B hml hv
  obtain ⟨rfl, hP, hK, hD0⟩ := hv
  have hx := B.exec
  have hb := B.bytes
  have hr := B.returns
  have hts := atoms_spec (ws := wsX1_lettersBy) B.pre
  have hown : s.vm.findClass RX1 = some m.cls := findClass_of_methodNamed B.named
  have hlocks := B.notSynchronized
  have hD := eg_D_of hD0
  have hS : va_S (eg_A (wM q cI cJ (nI n) mk lt tg pa an kn row len thr)) s.heap s.heap [] := va_S.rf
  have hin : ∀ w ∈ u_ws RX1 TX1 10, w ∈ wsX1_lettersBy := by decide +kernel
  have hl := lv_entry ([.ref (q 0), .int x, .int y]) (n := 6) (Nat.le_of_ble_eq_true rfl)
  rw [lg_entry_eq]
  generalize (lg_sl ([.ref (q 0), .int x, .int y]) ++ List.replicate (6 - (lg_sl ([.ref (q 0), .int x, .int y])).length) Slot.unset).toArray = ls at hl ⊢
  have hl : lv_has ls 6 [(0, .ref (q 0)), (1, .int x), (2, .int y)] := hl
  generalize h0H : s.heap = H at hP ⊢
  have hS : va_S (eg_A (wM q cI cJ (nI n) mk lt tg pa an kn row len thr)) s.heap H [] := by rw [← h0H]; exact hS
  generalize ([] : List Loc) = locs at hS ⊢
  refine lv_iconst (v := nI 0) hx hb dX1_lettersBy_0 (by decide +kernel) ?_
  refine lv_istore_n (lv' := [(3, .int (nI 0)), (0, .ref (q 0)), (1, .int x), (2, .int y)]) hx hb dX1_lettersBy_1 rfl hl (by decide) rfl (fun ls hl => ?_)
  refine lv_aload_n hx hb dX1_lettersBy_2 rfl (lv_at hl 1 rfl) ?_
  refine lv_iload_n hx hb dX1_lettersBy_3 rfl (lv_at hl 2 rfl) ?_
  refine eg_callS (As := [.int x]) (rest := [.ref (q 0)]) hx hb hml hown hts hK (c_X1_isAuthor l D cI cJ x ) (va_cwS 1 hts gX1_lettersBy_X1_isAuthor rfl rfl rfl (by decide +kernel) ⟨Nat.le_of_ble_eq_true rfl, Nat.le_of_ble_eq_true rfl⟩) rfl hl.1 rfl (Nat.le_of_ble_eq_true rfl) dX1_lettersBy_4 ⟨Nat.zero_le _, Nat.zero_le _⟩ ?_
  rw [show ev 4 x = false from bad_ev hbad]
  refine eg_ifeq_b (tgt := 21) hx hb dX1_lettersBy_7 (by decide) (fun _ => ?_) (fun h => Bool.noConfusion h)
  refine lv_iconst (v := nI 0) hx hb dX1_lettersBy_21 (by decide +kernel) ?_
  refine eg_callWV (As := [.int (eb false)]) (rest := []) hx hb hml hown hts hK hP hD rfl hS (c_X1_asked_f l D cI cJ q n mk lt tg pa an kn row len thr  ) (cwV 1 hts gX1_lettersBy_X1_asked rfl rfl rfl (by decide +kernel) ⟨Nat.le_of_ble_eq_true rfl, Nat.le_of_ble_eq_true rfl⟩) (va_recv hK hP (ci := 1) (q0 := 0) rfl rfl) rfl hl.1 rfl (Nat.le_of_ble_eq_true rfl) dX1_lettersBy_22 ⟨Nat.zero_le _, Nat.zero_le _⟩ (fun v9 w9 H locs hR9 hw9 hP hS => ?_)
  obtain ⟨rfl, rfl⟩ := hR9
  refine lv_istore (lv' := [(4, .int (eb false)), (3, .int (nI 0)), (0, .ref (q 0)), (1, .int x), (2, .int y)]) hx hb dX1_lettersBy_25 hl (by decide) rfl (fun ls hl => ?_)
  refine lv_iload hx hb dX1_lettersBy_27 (lv_at hl 0 rfl) ?_
  refine eg_ifeq_b (tgt := 42) hx hb dX1_lettersBy_29 (by decide) (fun _ => ?_) (fun h => Bool.noConfusion h)
  refine lv_iconst (v := nI 0) hx hb dX1_lettersBy_42 (by decide +kernel) ?_
  refine lv_istore (lv' := [(5, .int (nI 0)), (4, .int (eb false)), (3, .int (nI 0)), (0, .ref (q 0)), (1, .int x), (2, .int y)]) hx hb dX1_lettersBy_43 hl (by decide) rfl (fun ls hl => ?_)
  refine lv_iload hx hb dX1_lettersBy_45 (lv_at hl 1 rfl) ?_
  refine eg_ifeq_b (tgt := 89) hx hb dX1_lettersBy_47 (by decide) (fun _ => ?_) (fun h => Bool.noConfusion h)
  refine lv_iload_n hx hb dX1_lettersBy_89 rfl (lv_at hl 2 rfl) ?_
  exact W.iret hx hb hr (fun t9 ht9 _ => ⟨some (.int (nI 0)), (wM q cI cJ (nI n) mk lt tg pa an kn row len (nI 1)), rfl, ⟨_, _, rfl, rfl⟩, rfl, by rw [ht9]; exact hP, hS.F ht9⟩) hS.2.2 dX1_lettersBy_90
set_option maxHeartbeats 4000000 in
set_option maxRecDepth 100000 in
theorem c_X1_lettersBy_no2 (l : Launch) (D : va_G) (cI cJ : ClassId) (q : Nat → Nat) (n : Nat) (mk lt tg : Nat → Int32) (pa an kn : Nat → Int64) (row : Nat → Int32) (len thr : Int32) (a : Nat) (y : Int32) (hI : Inv n lt tg an kn) (ha : a < 4) (hbad : bad 4 y) : eg_MW D (tyL cI cJ) l yX1_lettersBy wsX1_lettersBy ({ frames := 2, cells := 0, slots := 0, locals := 42 }) 0 0 [.ref (q 0), .int (nI a), .int y] (wM q cI cJ (nI n) mk lt tg pa an kn row len thr) (fun r w1 => ∃ (row' : Nat → Int32) (len' : Int32), r = some (.int (nI 0)) ∧ w1 = wM q cI cJ (nI n) mk lt tg pa an kn row' len' (nI 1)) := by
  refine Met.ofW (cc := cX1_lettersBy) (maxL := 6) (ret := (some .int)) (by decide) rfl ?_
  intro p e s m args below meth c s₁ B hml hv
  obtain ⟨rfl, hP, hK, hD0⟩ := hv
  have hx := B.exec
  have hb := B.bytes
  have hr := B.returns
  have hts := atoms_spec (ws := wsX1_lettersBy) B.pre
  have hown : s.vm.findClass RX1 = some m.cls := findClass_of_methodNamed B.named
  have hlocks := B.notSynchronized
  have hD := eg_D_of hD0
  have hS : va_S (eg_A (wM q cI cJ (nI n) mk lt tg pa an kn row len thr)) s.heap s.heap [] := va_S.rf
  have hin : ∀ w ∈ u_ws RX1 TX1 10, w ∈ wsX1_lettersBy := by decide +kernel
  have hl := lv_entry ([.ref (q 0), .int (nI a), .int y]) (n := 6) (Nat.le_of_ble_eq_true rfl)
  rw [lg_entry_eq]
  generalize (lg_sl ([.ref (q 0), .int (nI a), .int y]) ++ List.replicate (6 - (lg_sl ([.ref (q 0), .int (nI a), .int y])).length) Slot.unset).toArray = ls at hl ⊢
  have hl : lv_has ls 6 [(0, .ref (q 0)), (1, .int (nI a)), (2, .int y)] := hl
  generalize h0H : s.heap = H at hP ⊢
  have hS : va_S (eg_A (wM q cI cJ (nI n) mk lt tg pa an kn row len thr)) s.heap H [] := by rw [← h0H]; exact hS
  generalize ([] : List Loc) = locs at hS ⊢
  refine lv_iconst (v := nI 0) hx hb dX1_lettersBy_0 (by decide +kernel) ?_
  refine lv_istore_n (lv' := [(3, .int (nI 0)), (0, .ref (q 0)), (1, .int (nI a)), (2, .int y)]) hx hb dX1_lettersBy_1 rfl hl (by decide) rfl (fun ls hl => ?_)
  refine lv_aload_n hx hb dX1_lettersBy_2 rfl (lv_at hl 1 rfl) ?_
  refine lv_iload_n hx hb dX1_lettersBy_3 rfl (lv_at hl 2 rfl) ?_
  refine eg_callS (As := [.int (nI a)]) (rest := [.ref (q 0)]) hx hb hml hown hts hK (c_X1_isAuthor l D cI cJ (nI a) ) (va_cwS 1 hts gX1_lettersBy_X1_isAuthor rfl rfl rfl (by decide +kernel) ⟨Nat.le_of_ble_eq_true rfl, Nat.le_of_ble_eq_true rfl⟩) rfl hl.1 rfl (Nat.le_of_ble_eq_true rfl) dX1_lettersBy_4 ⟨Nat.zero_le _, Nat.zero_le _⟩ ?_
  rw [show ev 4 (nI a) = true from ev_nI (by decide) ha]
  refine eg_ifeq_b (tgt := 21) hx hb dX1_lettersBy_7 (by decide) (fun h => Bool.noConfusion h) (fun _ => ?_)
  refine lv_iload_n hx hb dX1_lettersBy_10 rfl (lv_at hl 3 rfl) ?_
  refine eg_callS (As := [.int y]) (rest := [.ref (q 0)]) hx hb hml hown hts hK (c_X1_isAuthor l D cI cJ y ) (va_cwS 1 hts gX1_lettersBy_X1_isAuthor rfl rfl rfl (by decide +kernel) ⟨Nat.le_of_ble_eq_true rfl, Nat.le_of_ble_eq_true rfl⟩) rfl hl.1 rfl (Nat.le_of_ble_eq_true rfl) dX1_lettersBy_11 ⟨Nat.zero_le _, Nat.zero_le _⟩ ?_
  rw [show ev 4 y = false from bad_ev hbad]
  refine eg_ifeq_b (tgt := 21) hx hb dX1_lettersBy_14 (by decide) (fun _ => ?_) (fun h => Bool.noConfusion h)
  refine lv_iconst (v := nI 0) hx hb dX1_lettersBy_21 (by decide +kernel) ?_
  refine eg_callWV (As := [.int (eb false)]) (rest := []) hx hb hml hown hts hK hP hD rfl hS (c_X1_asked_f l D cI cJ q n mk lt tg pa an kn row len thr  ) (cwV 1 hts gX1_lettersBy_X1_asked rfl rfl rfl (by decide +kernel) ⟨Nat.le_of_ble_eq_true rfl, Nat.le_of_ble_eq_true rfl⟩) (va_recv hK hP (ci := 1) (q0 := 0) rfl rfl) rfl hl.1 rfl (Nat.le_of_ble_eq_true rfl) dX1_lettersBy_22 ⟨Nat.zero_le _, Nat.zero_le _⟩ (fun v9 w9 H locs hR9 hw9 hP hS => ?_)
  obtain ⟨rfl, rfl⟩ := hR9
  refine lv_istore (lv' := [(4, .int (eb false)), (3, .int (nI 0)), (0, .ref (q 0)), (1, .int (nI a)), (2, .int y)]) hx hb dX1_lettersBy_25 hl (by decide) rfl (fun ls hl => ?_)
  refine lv_iload hx hb dX1_lettersBy_27 (lv_at hl 0 rfl) ?_
  refine eg_ifeq_b (tgt := 42) hx hb dX1_lettersBy_29 (by decide) (fun _ => ?_) (fun h => Bool.noConfusion h)
  refine lv_iconst (v := nI 0) hx hb dX1_lettersBy_42 (by decide +kernel) ?_
  refine lv_istore (lv' := [(5, .int (nI 0)), (4, .int (eb false)), (3, .int (nI 0)), (0, .ref (q 0)), (1, .int (nI a)), (2, .int y)]) hx hb dX1_lettersBy_43 hl (by decide) rfl (fun ls hl => ?_)
  refine lv_iload hx hb dX1_lettersBy_45 (lv_at hl 1 rfl) ?_
  refine eg_ifeq_b (tgt := 89) hx hb dX1_lettersBy_47 (by decide) (fun _ => ?_) (fun h => Bool.noConfusion h)
  refine lv_iload_n hx hb dX1_lettersBy_89 rfl (lv_at hl 2 rfl) ?_
  exact W.iret hx hb hr (fun t9 ht9 _ => ⟨some (.int (nI 0)), (wM q cI cJ (nI n) mk lt tg pa an kn row len (nI 1)), rfl, ⟨_, _, rfl, rfl⟩, rfl, by rw [ht9]; exact hP, hS.F ht9⟩) hS.2.2 dX1_lettersBy_90
set_option maxHeartbeats 4000000 in
set_option maxRecDepth 100000 in
theorem c_X1_thrown (l : Launch) (D : va_G) (cI cJ : ClassId) (q : Nat → Nat) (n : Nat) (mk lt tg : Nat → Int32) (pa an kn : Nat → Int64) (row : Nat → Int32) (len thr : Int32) : eg_MR D (tyL cI cJ) l yX1_thrown wsX1_thrown ({ frames := 0, cells := 0, slots := 0, locals := 0 }) [.ref (q 0)] (wM q cI cJ (nI n) mk lt tg pa an kn row len thr) (some (.int thr)) := by
  refine Met.ofW (cc := cX1_thrown) (maxL := 1) (ret := (some .int)) (by decide) rfl ?_
  intro p e s m args below meth c s₁ B hml hv
  obtain ⟨rfl, hP, hK⟩ := hv
  have hx := B.exec
  have hb := B.bytes
  have hr := B.returns
  have hts := atoms_spec (ws := wsX1_thrown) B.pre
  have hown : s.vm.findClass RX1 = some m.cls := findClass_of_methodNamed B.named
  have hlocks := B.notSynchronized
  have hin : ∀ w ∈ u_ws RX1 TX1 10, w ∈ wsX1_thrown := by decide +kernel
  have hl := lv_entry ([.ref (q 0)]) (n := 1) (Nat.le_of_ble_eq_true rfl)
  rw [lg_entry_eq]
  generalize (lg_sl ([.ref (q 0)]) ++ List.replicate (1 - (lg_sl ([.ref (q 0)])).length) Slot.unset).toArray = ls at hl ⊢
  have hl : lv_has ls 1 [(0, .ref (q 0))] := hl
  refine lv_aload_n hx hb dX1_thrown_0 rfl (lv_at hl 0 rfl) ?_
  refine va_get (D := D) (ci := 1) (v := .int thr) (C := RX1) (T := TX1) (N := 10) hx hb hts hin hown hK hP 0 rfl rfl 9 (by decide) (hts (.fieldLink RX1 32 "EditGraphModel" "thrown" "I") (by decide +kernel)) (fun _ h9 => h9) rfl dX1_thrown_1 ?_
  exact W.iret hx hb hr (fun t9 ht9 _ => ⟨congrArg (fun z => Outcome.returned (some (Value.int z))) (by first | exact rfl), ht9⟩) (fun q h => nomatch h) dX1_thrown_4
