-- the reference: its private calls (by gen.py, specP.py)
set_option maxHeartbeats 4000000 in
set_option maxRecDepth 100000 in
theorem c_X1_looks (l : Launch) (D : va_G) (cI cJ : ClassId) (q : Nat → Nat) (n : Nat) (mk lt tg : Nat → Int32) (pa an kn : Nat → Int64) (row : Nat → Int32) (len thr : Int32) (a : Nat) (hI : Inv n lt tg an kn) (ha : a < 4) : eg_MW D (tyL cI cJ) l yX1_looks wsX1_looks ({ frames := 2, cells := 0, slots := 0, locals := 48 }) 0 0 [.ref (q 0), .int (nI a)] (wM q cI cJ (nI n) mk lt tg pa an kn row len thr) (fun r w1 => ∃ (row' : Nat → Int32), r = some (.int (eb true)) ∧ w1 = wM q cI cJ (nI n) mk lt tg pa an kn row' (nI (tx n lt tg (kn a)).length) thr ∧ holds row' (tx n lt tg (kn a))) := by
  refine Met.ofW (cc := cX1_looks) (maxL := 3) (ret := (some .boolean)) (by decide) rfl ?_
  intro p e s m args below meth c s₁ B hml hv
  obtain ⟨rfl, hP, hK, hD0⟩ := hv
  have hx := B.exec
  have hb := B.bytes
  have hr := B.returns
  have hts := atoms_spec (ws := wsX1_looks) B.pre
  have hown : s.vm.findClass RX1 = some m.cls := findClass_of_methodNamed B.named
  have hlocks := B.notSynchronized
  have hD := eg_D_of hD0
  have hS : va_S (eg_A (wM q cI cJ (nI n) mk lt tg pa an kn row len thr)) s.heap s.heap [] := va_S.rf
  have hin : ∀ w ∈ u_ws RX1 TX1 10, w ∈ wsX1_looks := by decide +kernel
  have hl := lv_entry ([.ref (q 0), .int (nI a)]) (n := 3) (Nat.le_of_ble_eq_true rfl)
  rw [lg_entry_eq]
  generalize (lg_sl ([.ref (q 0), .int (nI a)]) ++ List.replicate (3 - (lg_sl ([.ref (q 0), .int (nI a)])).length) Slot.unset).toArray = ls at hl ⊢
  have hl : lv_has ls 3 [(0, .ref (q 0)), (1, .int (nI a))] := hl
  generalize h0H : s.heap = H at hP ⊢
  have hS : va_S (eg_A (wM q cI cJ (nI n) mk lt tg pa an kn row len thr)) s.heap H [] := by rw [← h0H]; exact hS
  generalize ([] : List Loc) = locs at hS ⊢
  refine lv_iload_n hx hb dX1_looks_0 rfl (lv_at hl 1 rfl) ?_
  refine eg_callS (As := [.int (nI a)]) (rest := []) hx hb hml hown hts hK (c_X1_isAuthor l D cI cJ (nI a) ) (va_cwS 1 hts gX1_looks_X1_isAuthor rfl rfl rfl (by decide +kernel) ⟨Nat.le_of_ble_eq_true rfl, Nat.le_of_ble_eq_true rfl⟩) rfl hl.1 rfl (Nat.le_of_ble_eq_true rfl) dX1_looks_1 ⟨Nat.zero_le _, Nat.zero_le _⟩ ?_
  rw [show ev 4 (nI a) = true from ev_nI (by decide) ha]
  refine lv_istore_n (lv' := [(2, .int (eb true)), (0, .ref (q 0)), (1, .int (nI a))]) hx hb dX1_looks_4 rfl hl (by decide) rfl (fun ls hl => ?_)
  refine lv_iload_n hx hb dX1_looks_5 rfl (lv_at hl 0 rfl) ?_
  refine eg_ifeq_b (tgt := 19) hx hb dX1_looks_6 (by decide) (fun h => Bool.noConfusion h) (fun _ => ?_)
  refine lv_aload_n hx hb dX1_looks_9 rfl (lv_at hl 1 rfl) ?_
  refine lv_aload_n hx hb dX1_looks_10 rfl (lv_at hl 1 rfl) ?_
  refine va_get (D := D) (ci := 1) (v := .ref (q 6)) (C := RX1) (T := TX1) (N := 10) hx hb hts hin hown hK hP 0 rfl rfl 6 (by decide) (hts (.fieldLink RX1 26 "EditGraphModel" "knows" "[J") (by decide +kernel)) (fun _ h9 => h9) rfl dX1_looks_11 ?_
  refine lv_iload_n hx hb dX1_looks_14 rfl (lv_at hl 2 rfl) ?_
  refine eg_lald hx hb hK hP 6 1 rfl rfl (by omega) (by decide) dX1_looks_15 ?_
  refine eg_callWV (As := [.long (kn a)]) (rest := []) hx hb hml hown hts hK hP hD rfl hS (c_X1_reads l D cI cJ q n mk lt tg pa an kn row len thr (kn a) hI.1 (hI.hangV (hI.vk ha))) (cwV 1 hts gX1_looks_X1_reads rfl rfl rfl (by decide +kernel) ⟨Nat.le_of_ble_eq_true rfl, Nat.le_of_ble_eq_true rfl⟩) (va_recv hK hP (ci := 1) (q0 := 0) rfl rfl) rfl hl.1 rfl (Nat.le_of_ble_eq_true rfl) dX1_looks_16 ⟨Nat.zero_le _, Nat.zero_le _⟩ (fun v9 w9 H locs hR9 hw9 hP hS => ?_)
  obtain ⟨row1, rfl, rfl, hh⟩ := hR9
  have hT9 := tx_len hI (hI.vk ha)
  have hI1 := hI.1
  refine lv_iload_n hx hb dX1_looks_19 rfl (lv_at hl 0 rfl) ?_
  exact W.zret hx hb hr (by first | rfl | exact eb_nar) (fun t9 ht9 _ => ⟨some (.int (eb true)), (wM q cI cJ (nI n) mk lt tg pa an kn row1 (nI (tx n lt tg (kn a)).length) thr), rfl, ⟨row1, rfl, rfl, hh⟩, rfl, by rw [ht9]; exact hP, hS.F ht9⟩) hS.2.2 dX1_looks_20
set_option maxHeartbeats 4000000 in
set_option maxRecDepth 100000 in
theorem c_X1_looks_no (l : Launch) (D : va_G) (cI cJ : ClassId) (q : Nat → Nat) (n : Nat) (mk lt tg : Nat → Int32) (pa an kn : Nat → Int64) (row : Nat → Int32) (len thr : Int32) (x : Int32) (hbad : bad 4 x) : eg_MW D (tyL cI cJ) l yX1_looks wsX1_looks ({ frames := 2, cells := 0, slots := 0, locals := 42 }) 0 0 [.ref (q 0), .int x] (wM q cI cJ (nI n) mk lt tg pa an kn row len thr) (fun r w1 => r = some (.int (eb false)) ∧ w1 = wM q cI cJ (nI n) mk lt tg pa an kn row len thr) := by
  refine Met.ofW (cc := cX1_looks) (maxL := 3) (ret := (some .boolean)) (by decide) rfl ?_
  intro p e s m args below meth c s₁ B hml hv
  obtain ⟨rfl, hP, hK, hD0⟩ := hv
  have hx := B.exec
  have hb := B.bytes
  have hr := B.returns
  have hts := atoms_spec (ws := wsX1_looks) B.pre
  have hown : s.vm.findClass RX1 = some m.cls := findClass_of_methodNamed B.named
  have hlocks := B.notSynchronized
  have hD := eg_D_of hD0
  have hS : va_S (eg_A (wM q cI cJ (nI n) mk lt tg pa an kn row len thr)) s.heap s.heap [] := va_S.rf
  have hin : ∀ w ∈ u_ws RX1 TX1 10, w ∈ wsX1_looks := by decide +kernel
  have hl := lv_entry ([.ref (q 0), .int x]) (n := 3) (Nat.le_of_ble_eq_true rfl)
  rw [lg_entry_eq]
  generalize (lg_sl ([.ref (q 0), .int x]) ++ List.replicate (3 - (lg_sl ([.ref (q 0), .int x])).length) Slot.unset).toArray = ls at hl ⊢
  have hl : lv_has ls 3 [(0, .ref (q 0)), (1, .int x)] := hl
  generalize h0H : s.heap = H at hP ⊢
  have hS : va_S (eg_A (wM q cI cJ (nI n) mk lt tg pa an kn row len thr)) s.heap H [] := by rw [← h0H]; exact hS
  generalize ([] : List Loc) = locs at hS ⊢
  refine lv_iload_n hx hb dX1_looks_0 rfl (lv_at hl 1 rfl) ?_
  refine eg_callS (As := [.int x]) (rest := []) hx hb hml hown hts hK (c_X1_isAuthor l D cI cJ x ) (va_cwS 1 hts gX1_looks_X1_isAuthor rfl rfl rfl (by decide +kernel) ⟨Nat.le_of_ble_eq_true rfl, Nat.le_of_ble_eq_true rfl⟩) rfl hl.1 rfl (Nat.le_of_ble_eq_true rfl) dX1_looks_1 ⟨Nat.zero_le _, Nat.zero_le _⟩ ?_
  rw [show ev 4 x = false from bad_ev hbad]
  refine lv_istore_n (lv' := [(2, .int (eb false)), (0, .ref (q 0)), (1, .int x)]) hx hb dX1_looks_4 rfl hl (by decide) rfl (fun ls hl => ?_)
  refine lv_iload_n hx hb dX1_looks_5 rfl (lv_at hl 0 rfl) ?_
  refine eg_ifeq_b (tgt := 19) hx hb dX1_looks_6 (by decide) (fun _ => ?_) (fun h => Bool.noConfusion h)
  refine lv_iload_n hx hb dX1_looks_19 rfl (lv_at hl 0 rfl) ?_
  exact W.zret hx hb hr (by first | rfl | exact eb_nar) (fun t9 ht9 _ => ⟨some (.int (eb false)), (wM q cI cJ (nI n) mk lt tg pa an kn row len thr), rfl, ⟨rfl, rfl⟩, rfl, by rw [ht9]; exact hP, hS.F ht9⟩) hS.2.2 dX1_looks_20
set_option maxHeartbeats 4000000 in
set_option maxRecDepth 100000 in
theorem c_X1_looksAt (l : Launch) (D : va_G) (cI cJ : ClassId) (q : Nat → Nat) (n : Nat) (mk lt tg : Nat → Int32) (pa an kn : Nat → Int64) (row : Nat → Int32) (len thr : Int32) (e0 : Nat) (hI : Inv n lt tg an kn) (he : e0 < n) : eg_MW D (tyL cI cJ) l yX1_looksAt wsX1_looksAt ({ frames := 2, cells := 0, slots := 0, locals := 48 }) 0 0 [.ref (q 0), .int (nI e0)] (wM q cI cJ (nI n) mk lt tg pa an kn row len thr) (fun r w1 => ∃ (row' : Nat → Int32), r = some (.int (eb true)) ∧ w1 = wM q cI cJ (nI n) mk lt tg pa an kn row' (nI (tx n lt tg (an e0 ||| ol e0)).length) thr ∧ holds row' (tx n lt tg (an e0 ||| ol e0))) := by
  have hI1 := hI.1
  refine Met.ofW (cc := cX1_looksAt) (maxL := 3) (ret := (some .boolean)) (by decide) rfl ?_
  intro p e s m args below meth c s₁ B hml hv
  obtain ⟨rfl, hP, hK, hD0⟩ := hv
  have hx := B.exec
  have hb := B.bytes
  have hr := B.returns
  have hts := atoms_spec (ws := wsX1_looksAt) B.pre
  have hown : s.vm.findClass RX1 = some m.cls := findClass_of_methodNamed B.named
  have hlocks := B.notSynchronized
  have hD := eg_D_of hD0
  have hS : va_S (eg_A (wM q cI cJ (nI n) mk lt tg pa an kn row len thr)) s.heap s.heap [] := va_S.rf
  have hl := lv_entry ([.ref (q 0), .int (nI e0)]) (n := 3) (Nat.le_of_ble_eq_true rfl)
  rw [lg_entry_eq]
  generalize (lg_sl ([.ref (q 0), .int (nI e0)]) ++ List.replicate (3 - (lg_sl ([.ref (q 0), .int (nI e0)])).length) Slot.unset).toArray = ls at hl ⊢
  have hl : lv_has ls 3 [(0, .ref (q 0)), (1, .int (nI e0))] := hl
  generalize h0H : s.heap = H at hP ⊢
  have hS : va_S (eg_A (wM q cI cJ (nI n) mk lt tg pa an kn row len thr)) s.heap H [] := by rw [← h0H]; exact hS
  generalize ([] : List Loc) = locs at hS ⊢
  refine lv_aload_n hx hb dX1_looksAt_0 rfl (lv_at hl 0 rfl) ?_
  refine lv_iload_n hx hb dX1_looksAt_1 rfl (lv_at hl 1 rfl) ?_
  refine eg_callV (As := [.int (nI e0)]) (rest := []) hx hb hml hown hts hK hP (c_X1_isEvent l D cI cJ q n mk lt tg pa an kn row len thr (nI e0) hI.1) (cwV 1 hts gX1_looksAt_X1_isEvent rfl rfl rfl (by decide +kernel) ⟨Nat.le_of_ble_eq_true rfl, Nat.le_of_ble_eq_true rfl⟩) (va_recv hK hP (ci := 1) (q0 := 0) rfl rfl) rfl hl.1 rfl (Nat.le_of_ble_eq_true rfl) dX1_looksAt_2 ⟨Nat.zero_le _, Nat.zero_le _⟩ ?_
  rw [show ev n (nI e0) = true from ev_nI (by have := hI.1; omega) he]
  refine lv_istore_n (lv' := [(2, .int (eb true)), (0, .ref (q 0)), (1, .int (nI e0))]) hx hb dX1_looksAt_5 rfl hl (by decide) rfl (fun ls hl => ?_)
  refine lv_iload_n hx hb dX1_looksAt_6 rfl (lv_at hl 0 rfl) ?_
  refine eg_ifeq_b (tgt := 19) hx hb dX1_looksAt_7 (by decide) (fun h => Bool.noConfusion h) (fun _ => ?_)
  refine lv_aload_n hx hb dX1_looksAt_10 rfl (lv_at hl 1 rfl) ?_
  refine lv_aload_n hx hb dX1_looksAt_11 rfl (lv_at hl 1 rfl) ?_
  refine lv_iload_n hx hb dX1_looksAt_12 rfl (lv_at hl 2 rfl) ?_
  refine eg_callV (As := [.int (nI e0)]) (rest := [.ref (q 0)]) hx hb hml hown hts hK hP (c_X1_versionOf l D cI cJ q n mk lt tg pa an kn row len thr e0 (by omega)) (cwV 1 hts gX1_looksAt_X1_versionOf rfl rfl rfl (by decide +kernel) ⟨Nat.le_of_ble_eq_true rfl, Nat.le_of_ble_eq_true rfl⟩) (va_recv hK hP (ci := 1) (q0 := 0) rfl rfl) rfl hl.1 rfl (Nat.le_of_ble_eq_true rfl) dX1_looksAt_13 ⟨Nat.zero_le _, Nat.zero_le _⟩ ?_
  refine eg_callWV (As := [.long (an e0 ||| ol e0)]) (rest := []) hx hb hml hown hts hK hP hD rfl hS (c_X1_reads l D cI cJ q n mk lt tg pa an kn row len thr (an e0 ||| ol e0) hI.1 (hI.hangV (hI.ve he))) (cwV 1 hts gX1_looksAt_X1_reads rfl rfl rfl (by decide +kernel) ⟨Nat.le_of_ble_eq_true rfl, Nat.le_of_ble_eq_true rfl⟩) (va_recv hK hP (ci := 1) (q0 := 0) rfl rfl) rfl hl.1 rfl (Nat.le_of_ble_eq_true rfl) dX1_looksAt_16 ⟨Nat.zero_le _, Nat.zero_le _⟩ (fun v9 w9 H locs hR9 hw9 hP hS => ?_)
  obtain ⟨row1, rfl, rfl, hh⟩ := hR9
  have hT9 := tx_len hI (hI.ve he)
  have hI1 := hI.1
  refine lv_iload_n hx hb dX1_looksAt_19 rfl (lv_at hl 0 rfl) ?_
  exact W.zret hx hb hr (by first | rfl | exact eb_nar) (fun t9 ht9 _ => ⟨some (.int (eb true)), (wM q cI cJ (nI n) mk lt tg pa an kn row1 (nI (tx n lt tg (an e0 ||| ol e0)).length) thr), rfl, ⟨row1, rfl, rfl, hh⟩, rfl, by rw [ht9]; exact hP, hS.F ht9⟩) hS.2.2 dX1_looksAt_20
set_option maxHeartbeats 4000000 in
set_option maxRecDepth 100000 in
theorem c_X1_looksAt_no (l : Launch) (D : va_G) (cI cJ : ClassId) (q : Nat → Nat) (n : Nat) (mk lt tg : Nat → Int32) (pa an kn : Nat → Int64) (row : Nat → Int32) (len thr : Int32) (x : Int32) (hI : Inv n lt tg an kn) (hbad : bad n x) : eg_MW D (tyL cI cJ) l yX1_looksAt wsX1_looksAt ({ frames := 2, cells := 0, slots := 0, locals := 43 }) 0 0 [.ref (q 0), .int x] (wM q cI cJ (nI n) mk lt tg pa an kn row len thr) (fun r w1 => r = some (.int (eb false)) ∧ w1 = wM q cI cJ (nI n) mk lt tg pa an kn row len thr) := by
  refine Met.ofW (cc := cX1_looksAt) (maxL := 3) (ret := (some .boolean)) (by decide) rfl ?_
  intro p e s m args below meth c s₁ B hml hv
  obtain ⟨rfl, hP, hK, hD0⟩ := hv
  have hx := B.exec
  have hb := B.bytes
  have hr := B.returns
  have hts := atoms_spec (ws := wsX1_looksAt) B.pre
  have hown : s.vm.findClass RX1 = some m.cls := findClass_of_methodNamed B.named
  have hlocks := B.notSynchronized
  have hD := eg_D_of hD0
  have hS : va_S (eg_A (wM q cI cJ (nI n) mk lt tg pa an kn row len thr)) s.heap s.heap [] := va_S.rf
  have hl := lv_entry ([.ref (q 0), .int x]) (n := 3) (Nat.le_of_ble_eq_true rfl)
  rw [lg_entry_eq]
  generalize (lg_sl ([.ref (q 0), .int x]) ++ List.replicate (3 - (lg_sl ([.ref (q 0), .int x])).length) Slot.unset).toArray = ls at hl ⊢
  have hl : lv_has ls 3 [(0, .ref (q 0)), (1, .int x)] := hl
  generalize h0H : s.heap = H at hP ⊢
  have hS : va_S (eg_A (wM q cI cJ (nI n) mk lt tg pa an kn row len thr)) s.heap H [] := by rw [← h0H]; exact hS
  generalize ([] : List Loc) = locs at hS ⊢
  refine lv_aload_n hx hb dX1_looksAt_0 rfl (lv_at hl 0 rfl) ?_
  refine lv_iload_n hx hb dX1_looksAt_1 rfl (lv_at hl 1 rfl) ?_
  refine eg_callV (As := [.int x]) (rest := []) hx hb hml hown hts hK hP (c_X1_isEvent l D cI cJ q n mk lt tg pa an kn row len thr x hI.1) (cwV 1 hts gX1_looksAt_X1_isEvent rfl rfl rfl (by decide +kernel) ⟨Nat.le_of_ble_eq_true rfl, Nat.le_of_ble_eq_true rfl⟩) (va_recv hK hP (ci := 1) (q0 := 0) rfl rfl) rfl hl.1 rfl (Nat.le_of_ble_eq_true rfl) dX1_looksAt_2 ⟨Nat.zero_le _, Nat.zero_le _⟩ ?_
  rw [show ev n x = false from bad_ev hbad]
  refine lv_istore_n (lv' := [(2, .int (eb false)), (0, .ref (q 0)), (1, .int x)]) hx hb dX1_looksAt_5 rfl hl (by decide) rfl (fun ls hl => ?_)
  refine lv_iload_n hx hb dX1_looksAt_6 rfl (lv_at hl 0 rfl) ?_
  refine eg_ifeq_b (tgt := 19) hx hb dX1_looksAt_7 (by decide) (fun _ => ?_) (fun h => Bool.noConfusion h)
  refine lv_iload_n hx hb dX1_looksAt_19 rfl (lv_at hl 0 rfl) ?_
  exact W.zret hx hb hr (by first | rfl | exact eb_nar) (fun t9 ht9 _ => ⟨some (.int (eb false)), (wM q cI cJ (nI n) mk lt tg pa an kn row len thr), rfl, ⟨rfl, rfl⟩, rfl, by rw [ht9]; exact hP, hS.F ht9⟩) hS.2.2 dX1_looksAt_20
set_option maxHeartbeats 4000000 in
set_option maxRecDepth 100000 in
theorem c_X1_makes (l : Launch) (D : va_G) (cI cJ : ClassId) (q : Nat → Nat) (n : Nat) (mk lt tg : Nat → Int32) (pa an kn : Nat → Int64) (row : Nat → Int32) (len thr : Int32) (a : Nat) (lc : Int32) (t : Int32) (hnr : n < 60) (ha : a < 4) : eg_MW D (tyL cI cJ) l yX1_makes wsX1_makes ({ frames := 2, cells := 0, slots := 0, locals := 47 }) 0 0 [.ref (q 0), .int (nI a), .int lc, .int t] (wM q cI cJ (nI n) mk lt tg pa an kn row len thr) (fun r w1 => r = some (.int (nI n)) ∧ w1 = wM q cI cJ (nI (n + 1)) (upd mk n (nI a)) (upd lt n lc) (upd tg n t) (vp_updL pa n (hdX pa (kn a) n)) (vp_updL an n (kn a)) (vp_updL kn a (kn a ||| ol n)) row len thr) := by
  refine Met.ofW (cc := cX1_makes) (maxL := 4) (ret := (some .int)) (by decide) rfl ?_
  intro p e s m args below meth c s₁ B hml hv
  obtain ⟨rfl, hP, hK, hD0⟩ := hv
  have hx := B.exec
  have hb := B.bytes
  have hr := B.returns
  have hts := atoms_spec (ws := wsX1_makes) B.pre
  have hown : s.vm.findClass RX1 = some m.cls := findClass_of_methodNamed B.named
  have hlocks := B.notSynchronized
  have hD := eg_D_of hD0
  have hS : va_S (eg_A (wM q cI cJ (nI n) mk lt tg pa an kn row len thr)) s.heap s.heap [] := va_S.rf
  have hin : ∀ w ∈ u_ws RX1 TX1 10, w ∈ wsX1_makes := by decide +kernel
  have hl := lv_entry ([.ref (q 0), .int (nI a), .int lc, .int t]) (n := 4) (Nat.le_of_ble_eq_true rfl)
  rw [lg_entry_eq]
  generalize (lg_sl ([.ref (q 0), .int (nI a), .int lc, .int t]) ++ List.replicate (4 - (lg_sl ([.ref (q 0), .int (nI a), .int lc, .int t])).length) Slot.unset).toArray = ls at hl ⊢
  have hl : lv_has ls 4 [(0, .ref (q 0)), (1, .int (nI a)), (2, .int lc), (3, .int t)] := hl
  generalize h0H : s.heap = H at hP ⊢
  have hS : va_S (eg_A (wM q cI cJ (nI n) mk lt tg pa an kn row len thr)) s.heap H [] := by rw [← h0H]; exact hS
  generalize ([] : List Loc) = locs at hS ⊢
  refine lv_aload_n hx hb dX1_makes_0 rfl (lv_at hl 0 rfl) ?_
  refine va_get (D := D) (ci := 1) (v := .ref (q 1)) (C := RX1) (T := TX1) (N := 10) hx hb hts hin hown hK hP 0 rfl rfl 0 (by decide) (hts (.fieldLink RX1 7 "EditGraphModel" "authorOf" "[I") (by decide +kernel)) (fun _ h9 => h9) rfl dX1_makes_1 ?_
  refine lv_aload_n hx hb dX1_makes_4 rfl (lv_at hl 0 rfl) ?_
  refine va_get (D := D) (ci := 1) (v := .int (nI n)) (C := RX1) (T := TX1) (N := 10) hx hb hts hin hown hK hP 0 rfl rfl 5 (by decide) (hts (.fieldLink RX1 40 "EditGraphModel" "events" "I") (by decide +kernel)) (fun _ h9 => h9) rfl dX1_makes_5 ?_
  refine lv_iload_n hx hb dX1_makes_8 rfl (lv_at hl 1 rfl) ?_
  refine eg_iast hx hb hK hP hD rfl hS 1 0 rfl rfl (by omega) (by decide) dX1_makes_9 (w' := wM q cI cJ (nI n) (upd mk n (nI a)) lt tg pa an kn row len thr) rfl (fun H locs hP hS => ?_)
  refine lv_aload_n hx hb dX1_makes_10 rfl (lv_at hl 0 rfl) ?_
  refine va_get (D := D) (ci := 1) (v := .ref (q 2)) (C := RX1) (T := TX1) (N := 10) hx hb hts hin hown hK hP 0 rfl rfl 1 (by decide) (hts (.fieldLink RX1 13 "EditGraphModel" "letter" "[I") (by decide +kernel)) (fun _ h9 => h9) rfl dX1_makes_11 ?_
  refine lv_aload_n hx hb dX1_makes_14 rfl (lv_at hl 0 rfl) ?_
  refine va_get (D := D) (ci := 1) (v := .int (nI n)) (C := RX1) (T := TX1) (N := 10) hx hb hts hin hown hK hP 0 rfl rfl 5 (by decide) (hts (.fieldLink RX1 40 "EditGraphModel" "events" "I") (by decide +kernel)) (fun _ h9 => h9) rfl dX1_makes_15 ?_
  refine lv_iload_n hx hb dX1_makes_18 rfl (lv_at hl 2 rfl) ?_
  refine eg_iast hx hb hK hP hD rfl hS 2 0 rfl rfl (by omega) (by decide) dX1_makes_19 (w' := wM q cI cJ (nI n) (upd mk n (nI a)) (upd lt n lc) tg pa an kn row len thr) rfl (fun H locs hP hS => ?_)
  refine lv_aload_n hx hb dX1_makes_20 rfl (lv_at hl 0 rfl) ?_
  refine va_get (D := D) (ci := 1) (v := .ref (q 3)) (C := RX1) (T := TX1) (N := 10) hx hb hts hin hown hK hP 0 rfl rfl 2 (by decide) (hts (.fieldLink RX1 16 "EditGraphModel" "at" "[I") (by decide +kernel)) (fun _ h9 => h9) rfl dX1_makes_21 ?_
  refine lv_aload_n hx hb dX1_makes_24 rfl (lv_at hl 0 rfl) ?_
  refine va_get (D := D) (ci := 1) (v := .int (nI n)) (C := RX1) (T := TX1) (N := 10) hx hb hts hin hown hK hP 0 rfl rfl 5 (by decide) (hts (.fieldLink RX1 40 "EditGraphModel" "events" "I") (by decide +kernel)) (fun _ h9 => h9) rfl dX1_makes_25 ?_
  refine lv_iload_n hx hb dX1_makes_28 rfl (lv_at hl 3 rfl) ?_
  refine eg_iast hx hb hK hP hD rfl hS 3 0 rfl rfl (by omega) (by decide) dX1_makes_29 (w' := wM q cI cJ (nI n) (upd mk n (nI a)) (upd lt n lc) (upd tg n t) pa an kn row len thr) rfl (fun H locs hP hS => ?_)
  refine lv_aload_n hx hb dX1_makes_30 rfl (lv_at hl 0 rfl) ?_
  refine va_get (D := D) (ci := 1) (v := .ref (q 4)) (C := RX1) (T := TX1) (N := 10) hx hb hts hin hown hK hP 0 rfl rfl 3 (by decide) (hts (.fieldLink RX1 19 "EditGraphModel" "parents" "[J") (by decide +kernel)) (fun _ h9 => h9) rfl dX1_makes_31 ?_
  refine lv_aload_n hx hb dX1_makes_34 rfl (lv_at hl 0 rfl) ?_
  refine va_get (D := D) (ci := 1) (v := .int (nI n)) (C := RX1) (T := TX1) (N := 10) hx hb hts hin hown hK hP 0 rfl rfl 5 (by decide) (hts (.fieldLink RX1 40 "EditGraphModel" "events" "I") (by decide +kernel)) (fun _ h9 => h9) rfl dX1_makes_35 ?_
  refine lv_aload_n hx hb dX1_makes_38 rfl (lv_at hl 0 rfl) ?_
  refine lv_aload_n hx hb dX1_makes_39 rfl (lv_at hl 0 rfl) ?_
  refine va_get (D := D) (ci := 1) (v := .ref (q 6)) (C := RX1) (T := TX1) (N := 10) hx hb hts hin hown hK hP 0 rfl rfl 6 (by decide) (hts (.fieldLink RX1 26 "EditGraphModel" "knows" "[J") (by decide +kernel)) (fun _ h9 => h9) rfl dX1_makes_40 ?_
  refine lv_iload_n hx hb dX1_makes_43 rfl (lv_at hl 1 rfl) ?_
  refine eg_lald hx hb hK hP 6 1 rfl rfl (by omega) (by decide) dX1_makes_44 ?_
  refine eg_callV (As := [.long (kn a)]) (rest := [.int (nI n), .ref (q 4)]) hx hb hml hown hts hK hP (c_X1_headsOf l D cI cJ q n (upd mk n (nI a)) (upd lt n lc) (upd tg n t) pa an kn row len thr (kn a) (by omega)) (cwV 1 hts gX1_makes_X1_headsOf rfl rfl rfl (by decide +kernel) ⟨Nat.le_of_ble_eq_true rfl, Nat.le_of_ble_eq_true rfl⟩) (va_recv hK hP (ci := 1) (q0 := 0) rfl rfl) rfl hl.1 rfl (Nat.le_of_ble_eq_true rfl) dX1_makes_45 ⟨Nat.zero_le _, Nat.zero_le _⟩ ?_
  refine eg_last hx hb hK hP hD rfl hS 4 1 rfl rfl (by omega) (by decide) dX1_makes_48 (w' := wM q cI cJ (nI n) (upd mk n (nI a)) (upd lt n lc) (upd tg n t) (vp_updL pa n (hdX pa (kn a) n)) an kn row len thr) rfl (fun H locs hP hS => ?_)
  refine lv_aload_n hx hb dX1_makes_49 rfl (lv_at hl 0 rfl) ?_
  refine va_get (D := D) (ci := 1) (v := .ref (q 5)) (C := RX1) (T := TX1) (N := 10) hx hb hts hin hown hK hP 0 rfl rfl 4 (by decide) (hts (.fieldLink RX1 23 "EditGraphModel" "ancestors" "[J") (by decide +kernel)) (fun _ h9 => h9) rfl dX1_makes_50 ?_
  refine lv_aload_n hx hb dX1_makes_53 rfl (lv_at hl 0 rfl) ?_
  refine va_get (D := D) (ci := 1) (v := .int (nI n)) (C := RX1) (T := TX1) (N := 10) hx hb hts hin hown hK hP 0 rfl rfl 5 (by decide) (hts (.fieldLink RX1 40 "EditGraphModel" "events" "I") (by decide +kernel)) (fun _ h9 => h9) rfl dX1_makes_54 ?_
  refine lv_aload_n hx hb dX1_makes_57 rfl (lv_at hl 0 rfl) ?_
  refine va_get (D := D) (ci := 1) (v := .ref (q 6)) (C := RX1) (T := TX1) (N := 10) hx hb hts hin hown hK hP 0 rfl rfl 6 (by decide) (hts (.fieldLink RX1 26 "EditGraphModel" "knows" "[J") (by decide +kernel)) (fun _ h9 => h9) rfl dX1_makes_58 ?_
  refine lv_iload_n hx hb dX1_makes_61 rfl (lv_at hl 1 rfl) ?_
  refine eg_lald hx hb hK hP 6 1 rfl rfl (by omega) (by decide) dX1_makes_62 ?_
  refine eg_last hx hb hK hP hD rfl hS 5 1 rfl rfl (by omega) (by decide) dX1_makes_63 (w' := wM q cI cJ (nI n) (upd mk n (nI a)) (upd lt n lc) (upd tg n t) (vp_updL pa n (hdX pa (kn a) n)) (vp_updL an n (kn a)) kn row len thr) rfl (fun H locs hP hS => ?_)
  refine lv_aload_n hx hb dX1_makes_64 rfl (lv_at hl 0 rfl) ?_
  refine va_get (D := D) (ci := 1) (v := .ref (q 6)) (C := RX1) (T := TX1) (N := 10) hx hb hts hin hown hK hP 0 rfl rfl 6 (by decide) (hts (.fieldLink RX1 26 "EditGraphModel" "knows" "[J") (by decide +kernel)) (fun _ h9 => h9) rfl dX1_makes_65 ?_
  refine lv_iload_n hx hb dX1_makes_68 rfl (lv_at hl 1 rfl) ?_
  refine lv_dup2_11 hx hb dX1_makes_69 rfl rfl ?_
  refine eg_lald hx hb hK hP 6 1 rfl rfl (by omega) (by decide) dX1_makes_70 ?_
  refine lv_lconst (v := 1) hx hb dX1_makes_71 (by decide) ?_
  refine lv_aload_n hx hb dX1_makes_72 rfl (lv_at hl 0 rfl) ?_
  refine va_get (D := D) (ci := 1) (v := .int (nI n)) (C := RX1) (T := TX1) (N := 10) hx hb hts hin hown hK hP 0 rfl rfl 5 (by decide) (hts (.fieldLink RX1 40 "EditGraphModel" "events" "I") (by decide +kernel)) (fun _ h9 => h9) rfl dX1_makes_73 ?_
  refine lv_lshl (v := (1 <<< ((nI n).toInt64 &&& 63))) hx hb dX1_makes_76 rfl ?_
  rw [ol_shl n (by omega)]
  refine lv_lor hx hb dX1_makes_77 ?_
  refine eg_last hx hb hK hP hD rfl hS 6 1 rfl rfl (by omega) (by decide) dX1_makes_78 (w' := wM q cI cJ (nI n) (upd mk n (nI a)) (upd lt n lc) (upd tg n t) (vp_updL pa n (hdX pa (kn a) n)) (vp_updL an n (kn a)) (vp_updL kn a ((kn a) ||| (ol n))) row len thr) rfl (fun H locs hP hS => ?_)
  refine lv_aload_n hx hb dX1_makes_79 rfl (lv_at hl 0 rfl) ?_
  refine lv_dup hx hb dX1_makes_80 rfl ?_
  refine va_get (D := D) (ci := 1) (v := .int (nI n)) (C := RX1) (T := TX1) (N := 10) hx hb hts hin hown hK hP 0 rfl rfl 5 (by decide) (hts (.fieldLink RX1 40 "EditGraphModel" "events" "I") (by decide +kernel)) (fun _ h9 => h9) rfl dX1_makes_81 ?_
  refine lv_iconst (v := nI 1) hx hb dX1_makes_84 (by decide +kernel) ?_
  refine eg_iadd hx hb dX1_makes_85 ?_
  refine va_put (D := D) (ci := 1) (v := .int (nI (n + 1))) (ty := .int) (C := RX1) (T := TX1) (N := 10) hx hb hts hin tyX1 tyX1_ok nmX1 hown hK hP (eg_D_same hD rfl) hS 0 rfl rfl 5 (by decide) (hts (.fieldLink RX1 40 "EditGraphModel" "events" "I") (by decide +kernel)) (fun _ h9 => h9) rfl (by decide +kernel) rfl rfl (Nat.le_of_ble_eq_true rfl) dX1_makes_86 (fun H locs hP _ hS => ?_)
  have hP : va_P D vwCl (wM q cI cJ (nI (n + 1)) (upd mk n (nI a)) (upd lt n lc) (upd tg n t) (vp_updL pa n (hdX pa (kn a) n)) (vp_updL an n (kn a)) (vp_updL kn a ((kn a) ||| (ol n))) row len thr) H := hP
  refine lv_aload_n hx hb dX1_makes_89 rfl (lv_at hl 0 rfl) ?_
  refine va_get (D := D) (ci := 1) (v := .int (nI (n + 1))) (C := RX1) (T := TX1) (N := 10) hx hb hts hin hown hK hP 0 rfl rfl 5 (by decide) (hts (.fieldLink RX1 40 "EditGraphModel" "events" "I") (by decide +kernel)) (fun _ h9 => h9) rfl dX1_makes_90 ?_
  refine lv_iconst (v := nI 1) hx hb dX1_makes_93 (by decide +kernel) ?_
  refine eg_isub hx hb dX1_makes_94 (by omega) ?_
  exact W.iret hx hb hr (fun t9 ht9 _ => ⟨some (.int (nI (n + 1 - 1))), (wM q cI cJ (nI (n + 1)) (upd mk n (nI a)) (upd lt n lc) (upd tg n t) (vp_updL pa n (hdX pa (kn a) n)) (vp_updL an n (kn a)) (vp_updL kn a ((kn a) ||| (ol n))) row len thr), rfl, ⟨rfl, rfl⟩, rfl, by rw [ht9]; exact hP, hS.F ht9⟩) hS.2.2 dX1_makes_95
set_option maxHeartbeats 4000000 in
set_option maxRecDepth 100000 in
theorem c_X1_learns (l : Launch) (D : va_G) (cI cJ : ClassId) (q : Nat → Nat) (n : Nat) (mk lt tg : Nat → Int32) (pa an kn : Nat → Int64) (row : Nat → Int32) (len thr : Int32) (a : Nat) (v : Int64) (hI : Inv n lt tg an kn) (ha : a < 4) (hv : ∀ i, bi v i = true → i < n) : eg_MW D (tyL cI cJ) l yX1_learns wsX1_learns ({ frames := 2, cells := 0, slots := 0, locals := 46 }) 0 0 [.ref (q 0), .int (nI a), .long v] (wM q cI cJ (nI n) mk lt tg pa an kn row len thr) (fun r w1 => r = some (.int (nI (pc64 (v &&& (kn a ^^^ (-1)))))) ∧ w1 = wM q cI cJ (nI n) mk lt tg pa an (vp_updL kn a (kn a ||| v)) row len thr) := by
  refine Met.ofW (cc := cX1_learns) (maxL := 5) (ret := (some .int)) (by decide) rfl ?_
  intro p e s m args below meth c s₁ B hml hv
  obtain ⟨rfl, hP, hK, hD0⟩ := hv
  have hx := B.exec
  have hb := B.bytes
  have hr := B.returns
  have hts := atoms_spec (ws := wsX1_learns) B.pre
  have hown : s.vm.findClass RX1 = some m.cls := findClass_of_methodNamed B.named
  have hlocks := B.notSynchronized
  have hD := eg_D_of hD0
  have hS : va_S (eg_A (wM q cI cJ (nI n) mk lt tg pa an kn row len thr)) s.heap s.heap [] := va_S.rf
  have hin : ∀ w ∈ u_ws RX1 TX1 10, w ∈ wsX1_learns := by decide +kernel
  have hl := lv_entry ([.ref (q 0), .int (nI a), .long v]) (n := 5) (Nat.le_of_ble_eq_true rfl)
  rw [lg_entry_eq]
  generalize (lg_sl ([.ref (q 0), .int (nI a), .long v]) ++ List.replicate (5 - (lg_sl ([.ref (q 0), .int (nI a), .long v])).length) Slot.unset).toArray = ls at hl ⊢
  have hl : lv_has ls 5 [(0, .ref (q 0)), (1, .int (nI a)), (2, .long v)] := hl
  generalize h0H : s.heap = H at hP ⊢
  have hS : va_S (eg_A (wM q cI cJ (nI n) mk lt tg pa an kn row len thr)) s.heap H [] := by rw [← h0H]; exact hS
  generalize ([] : List Loc) = locs at hS ⊢
  refine lv_aload_n hx hb dX1_learns_0 rfl (lv_at hl 0 rfl) ?_
  refine lv_aload_n hx hb dX1_learns_1 rfl (lv_at hl 0 rfl) ?_
  refine va_get (D := D) (ci := 1) (v := .ref (q 6)) (C := RX1) (T := TX1) (N := 10) hx hb hts hin hown hK hP 0 rfl rfl 6 (by decide) (hts (.fieldLink RX1 26 "EditGraphModel" "knows" "[J") (by decide +kernel)) (fun _ h9 => h9) rfl dX1_learns_2 ?_
  refine lv_iload_n hx hb dX1_learns_5 rfl (lv_at hl 1 rfl) ?_
  refine eg_lald hx hb hK hP 6 1 rfl rfl (by omega) (by decide) dX1_learns_6 ?_
  refine eg_callV (As := [.long (kn a)]) (rest := []) hx hb hml hown hts hK hP (c_X1_count l D cI cJ q n mk lt tg pa an kn row len thr (kn a) hI.1) (cwV 1 hts gX1_learns_X1_count rfl rfl rfl (by decide +kernel) ⟨Nat.le_of_ble_eq_true rfl, Nat.le_of_ble_eq_true rfl⟩) (va_recv hK hP (ci := 1) (q0 := 0) rfl rfl) rfl hl.1 rfl (Nat.le_of_ble_eq_true rfl) dX1_learns_7 ⟨Nat.zero_le _, Nat.zero_le _⟩ ?_
  refine lv_istore (lv' := [(4, .int (nI (ct (bi (kn a)) n))), (0, .ref (q 0)), (1, .int (nI a)), (2, .long v)]) hx hb dX1_learns_10 hl (by decide) rfl (fun ls hl => ?_)
  refine lv_aload_n hx hb dX1_learns_12 rfl (lv_at hl 1 rfl) ?_
  refine va_get (D := D) (ci := 1) (v := .ref (q 6)) (C := RX1) (T := TX1) (N := 10) hx hb hts hin hown hK hP 0 rfl rfl 6 (by decide) (hts (.fieldLink RX1 26 "EditGraphModel" "knows" "[J") (by decide +kernel)) (fun _ h9 => h9) rfl dX1_learns_13 ?_
  refine lv_iload_n hx hb dX1_learns_16 rfl (lv_at hl 2 rfl) ?_
  refine lv_dup2_11 hx hb dX1_learns_17 rfl rfl ?_
  refine eg_lald hx hb hK hP 6 1 rfl rfl (by omega) (by decide) dX1_learns_18 ?_
  refine lv_lload_n hx hb dX1_learns_19 rfl (lv_at hl 3 rfl) ?_
  refine lv_lor hx hb dX1_learns_20 ?_
  refine eg_last hx hb hK hP hD rfl hS 6 1 rfl rfl (by omega) (by decide) dX1_learns_21 (w' := wM q cI cJ (nI n) mk lt tg pa an (vp_updL kn a ((kn a) ||| v)) row len thr) rfl (fun H locs hP hS => ?_)
  refine lv_aload_n hx hb dX1_learns_22 rfl (lv_at hl 1 rfl) ?_
  refine lv_aload_n hx hb dX1_learns_23 rfl (lv_at hl 1 rfl) ?_
  refine va_get (D := D) (ci := 1) (v := .ref (q 6)) (C := RX1) (T := TX1) (N := 10) hx hb hts hin hown hK hP 0 rfl rfl 6 (by decide) (hts (.fieldLink RX1 26 "EditGraphModel" "knows" "[J") (by decide +kernel)) (fun _ h9 => h9) rfl dX1_learns_24 ?_
  refine lv_iload_n hx hb dX1_learns_27 rfl (lv_at hl 2 rfl) ?_
  refine eg_lald hx hb hK hP 6 1 rfl rfl (by omega) (by decide) dX1_learns_28 ?_
  rw [pk_uLs]
  refine eg_callV (As := [.long (kn a ||| v)]) (rest := []) hx hb hml hown hts hK hP (c_X1_count l D cI cJ q n mk lt tg pa an (vp_updL kn a ((kn a) ||| v)) row len thr (kn a ||| v) hI.1) (cwV 1 hts gX1_learns_X1_count rfl rfl rfl (by decide +kernel) ⟨Nat.le_of_ble_eq_true rfl, Nat.le_of_ble_eq_true rfl⟩) (va_recv hK hP (ci := 1) (q0 := 0) rfl rfl) rfl hl.1 rfl (Nat.le_of_ble_eq_true rfl) dX1_learns_29 ⟨Nat.zero_le _, Nat.zero_le _⟩ ?_
  refine lv_iload hx hb dX1_learns_32 (lv_at hl 0 rfl) ?_
  have hle9 : ct (bi (kn a)) n ≤ ct (bi (kn a ||| v)) n := by rw [lrn hI.1 hv]; omega
  refine eg_isub hx hb dX1_learns_34 (by omega) ?_
  rw [lrn hI.1 hv, Nat.add_sub_cancel_left]
  exact W.iret hx hb hr (fun t9 ht9 _ => ⟨some (.int (nI (pc64 (v &&& (kn a ^^^ (-1)))))), (wM q cI cJ (nI n) mk lt tg pa an (vp_updL kn a ((kn a) ||| v)) row len thr), rfl, ⟨rfl, rfl⟩, rfl, by rw [ht9]; exact hP, hS.F ht9⟩) hS.2.2 dX1_learns_35
set_option maxHeartbeats 4000000 in
set_option maxRecDepth 100000 in
theorem c_X1_criticals (l : Launch) (D : va_G) (cI cJ : ClassId) (q : Nat → Nat) (n : Nat) (mk lt tg : Nat → Int32) (pa an kn : Nat → Int64) (row : Nat → Int32) (len thr : Int32) (a : Nat) (hI : Inv n lt tg an kn) (ha : a < 4) : eg_MR D (tyL cI cJ) l yX1_criticals wsX1_criticals ({ frames := 2, cells := 0, slots := 0, locals := 44 }) [.ref (q 0), .int (nI a)] (wM q cI cJ (nI n) mk lt tg pa an kn row len thr) (some (.long (crM an (kn a) n n))) := by
  have hI1 := hI.1
  refine Met.ofW (cc := cX1_criticals) (maxL := 7) (ret := (some .long)) (by decide) rfl ?_
  intro p e s m args below meth c s₁ B hml hv
  obtain ⟨rfl, hP, hK⟩ := hv
  have hx := B.exec
  have hb := B.bytes
  have hr := B.returns
  have hts := atoms_spec (ws := wsX1_criticals) B.pre
  have hown : s.vm.findClass RX1 = some m.cls := findClass_of_methodNamed B.named
  have hlocks := B.notSynchronized
  have hin : ∀ w ∈ u_ws RX1 TX1 10, w ∈ wsX1_criticals := by decide +kernel
  have hl := lv_entry ([.ref (q 0), .int (nI a)]) (n := 7) (Nat.le_of_ble_eq_true rfl)
  rw [lg_entry_eq]
  generalize (lg_sl ([.ref (q 0), .int (nI a)]) ++ List.replicate (7 - (lg_sl ([.ref (q 0), .int (nI a)])).length) Slot.unset).toArray = ls at hl ⊢
  have hl : lv_has ls 7 [(0, .ref (q 0)), (1, .int (nI a))] := hl
  have loop : ∀ (f i : Nat) (ls : Array Slot), n < i + f → i ≤ n → lv_has ls 7 [(0, .ref (q 0)), (1, .int (nI a)), (2, .long (crM an (kn a) n i)), (4, .int (nI i))] → W p l e (headSpec wsX1_criticals ({ frames := 2, cells := 0, slots := 0, locals := 44 })).room s m ([.ref (q 0), .int (nI a)] : List Value).toArray below meth c s.heap [] 0 0 (MQ below (eg_R (some (.long (crM an (kn a) n n)))) ([.ref (q 0), .int (nI a)] : List Value).toArray s 0 0 (fun _ => False)) (F0 m 5 ls []) := by
    intro f
    induction f with
    | zero => intro i  ls h1 h2 hl; omega
    | succ f ih =>
      intro i  ls h1 h2 hl
      refine lv_iload hx hb dX1_criticals_5 (lv_at hl 3 rfl) ?_
      refine lv_aload_n hx hb dX1_criticals_7 rfl (lv_at hl 0 rfl) ?_
      refine va_get (D := D) (ci := 1) (v := .int (nI n)) (C := RX1) (T := TX1) (N := 10) hx hb hts hin hown hK hP 0 rfl rfl 5 (by decide) (hts (.fieldLink RX1 40 "EditGraphModel" "events" "I") (by decide +kernel)) (fun _ h9 => h9) rfl dX1_criticals_8 ?_
      refine eg_icmp_ge (tgt := 104) hx hb dX1_criticals_11 (by decide) (by omega) (by omega) (fun c11 => ?_) (fun c11 => ?_)
      · refine lv_lload_n hx hb dX1_criticals_104 rfl (lv_at hl 2 rfl) ?_
        exact W.lret hx hb hr (fun t9 ht9 _ => ⟨congrArg (fun z => Outcome.returned (some (Value.long z))) (by first | (rw [show n = i by omega]; done)), ht9⟩) (fun q h => nomatch h) dX1_criticals_105
      · refine lv_aload_n hx hb dX1_criticals_14 rfl (lv_at hl 0 rfl) ?_
        refine va_get (D := D) (ci := 1) (v := .ref (q 6)) (C := RX1) (T := TX1) (N := 10) hx hb hts hin hown hK hP 0 rfl rfl 6 (by decide) (hts (.fieldLink RX1 26 "EditGraphModel" "knows" "[J") (by decide +kernel)) (fun _ h9 => h9) rfl dX1_criticals_15 ?_
        refine lv_iload_n hx hb dX1_criticals_18 rfl (lv_at hl 1 rfl) ?_
        refine eg_lald hx hb hK hP 6 1 rfl rfl (by omega) (by decide) dX1_criticals_19 ?_
        refine lv_iload hx hb dX1_criticals_20 (lv_at hl 3 rfl) ?_
        refine eg_callS (As := [.long (kn a), .int (nI i)]) (rest := []) hx hb hml hown hts hK (c_X1_has l D cI cJ (kn a) i (by omega)) (va_cwS 2 hts gX1_criticals_X1_has rfl rfl rfl (by decide +kernel) ⟨Nat.le_of_ble_eq_true rfl, Nat.le_of_ble_eq_true rfl⟩) rfl hl.1 rfl (Nat.le_of_ble_eq_true rfl) dX1_criticals_22 ⟨Nat.zero_le _, Nat.zero_le _⟩ ?_
        refine lv_istore (lv' := [(5, .int (eb (bi (kn a) i))), (0, .ref (q 0)), (1, .int (nI a)), (2, .long (crM an (kn a) n i)), (4, .int (nI i))]) hx hb dX1_criticals_25 hl (by decide) rfl (fun ls hl => ?_)
        refine lv_iconst (v := nI 0) hx hb dX1_criticals_27 (by decide +kernel) ?_
        refine lv_istore (lv' := [(6, .int (nI 0)), (5, .int (eb (bi (kn a) i))), (0, .ref (q 0)), (1, .int (nI a)), (2, .long (crM an (kn a) n i)), (4, .int (nI i))]) hx hb dX1_criticals_28 hl (by decide) rfl (fun ls hl => ?_)
        have loopI : ∀ (f : Nat) (m9 : Nat) (ls : Array Slot), n < m9 + f → m9 ≤ n → lv_has ls 7 [(0, .ref (q 0)), (1, .int (nI a)), (2, .long (crM an (kn a) n i)), (4, .int (nI i)), (5, .int (eb (crj an (kn a) i m9))), (6, .int (nI m9))] → W p l e (headSpec wsX1_criticals ({ frames := 2, cells := 0, slots := 0, locals := 44 })).room s m ([.ref (q 0), .int (nI a)] : List Value).toArray below meth c s.heap [] 0 0 (MQ below (eg_R (some (.long (crM an (kn a) n n)))) ([.ref (q 0), .int (nI a)] : List Value).toArray s 0 0 (fun _ => False)) (F0 m 30 ls []) := by
          intro f
          induction f with
          | zero => intro m9 ls g1 g2 hl; omega
          | succ f ihI =>
            intro m9 ls g1 g2 hl
            refine lv_iload hx hb dX1_criticals_30 (lv_at hl 5 rfl) ?_
            refine lv_aload_n hx hb dX1_criticals_32 rfl (lv_at hl 0 rfl) ?_
            refine va_get (D := D) (ci := 1) (v := .int (nI n)) (C := RX1) (T := TX1) (N := 10) hx hb hts hin hown hK hP 0 rfl rfl 5 (by decide) (hts (.fieldLink RX1 40 "EditGraphModel" "events" "I") (by decide +kernel)) (fun _ h9 => h9) rfl dX1_criticals_33 ?_
            refine eg_icmp_ge (tgt := 82) hx hb dX1_criticals_36 (by decide) (by omega) (by omega) (fun c36 => ?_) (fun c36 => ?_)
            · have e5 : crj an (kn a) i m9 = crj an (kn a) i n := by first | exact crj_end g2 c41 | rw [show m9 = n by omega]
              rw [e5] at hl
              refine lv_lload_n hx hb dX1_criticals_82 rfl (lv_at hl 2 rfl) ?_
              refine lv_iload hx hb dX1_criticals_83 (lv_at hl 4 rfl) ?_
              refine eg_ifeq_b (tgt := 95) hx hb dX1_criticals_85 (by decide) (fun c85 => ?_) (fun c85 => ?_)
              · refine lv_lconst (v := 0) hx hb dX1_criticals_95 (by decide) ?_
                refine lv_lor hx hb dX1_criticals_96 ?_
                refine lv_lstore_n (lv' := [(2, .long ((crM an (kn a) n i) ||| 0)), (0, .ref (q 0)), (1, .int (nI a)), (4, .int (nI i)), (5, .int (eb (crj an (kn a) i n))), (6, .int (nI m9))]) hx hb dX1_criticals_97 rfl hl (by decide) rfl (fun ls hl => ?_)
                refine lv_iinc (v := nI (i + 1)) (lv' := [(4, .int (nI (i + 1))), (2, .long ((crM an (kn a) n i) ||| 0)), (0, .ref (q 0)), (1, .int (nI a)), (5, .int (eb (crj an (kn a) i n))), (6, .int (nI m9))]) hx hb dX1_criticals_98 hl (k := 3) rfl (eg_inc1 _) (by decide) rfl (fun ls hl => ?_)
                refine lv_goto (tgt := 5) hx hb dX1_criticals_101 (by decide) ?_
                have eA0 : crM an (kn a) n (i + 1) = ((crM an (kn a) n i) ||| 0) := by first | (rw [crM, if_pos c85]; done) | (rw [crM, if_neg (fun h => Bool.noConfusion (c85.symm.trans h)), or0]; done)
                exact ih (i + 1) _ (by omega) (by omega) (by rw [eA0]; exact lv_sub hl [2, 3, 1, 0] rfl)
              · refine lv_lconst (v := 1) hx hb dX1_criticals_88 (by decide) ?_
                refine lv_iload hx hb dX1_criticals_89 (lv_at hl 3 rfl) ?_
                refine lv_lshl (v := (1 <<< ((nI i).toInt64 &&& 63))) hx hb dX1_criticals_91 rfl ?_
                refine lv_goto (tgt := 96) hx hb dX1_criticals_92 (by decide) ?_
                rw [ol_shl i (by omega)]
                refine lv_lor hx hb dX1_criticals_96 ?_
                refine lv_lstore_n (lv' := [(2, .long ((crM an (kn a) n i) ||| (ol i))), (0, .ref (q 0)), (1, .int (nI a)), (4, .int (nI i)), (5, .int (eb (crj an (kn a) i n))), (6, .int (nI m9))]) hx hb dX1_criticals_97 rfl hl (by decide) rfl (fun ls hl => ?_)
                refine lv_iinc (v := nI (i + 1)) (lv' := [(4, .int (nI (i + 1))), (2, .long ((crM an (kn a) n i) ||| (ol i))), (0, .ref (q 0)), (1, .int (nI a)), (5, .int (eb (crj an (kn a) i n))), (6, .int (nI m9))]) hx hb dX1_criticals_98 hl (k := 3) rfl (eg_inc1 _) (by decide) rfl (fun ls hl => ?_)
                refine lv_goto (tgt := 5) hx hb dX1_criticals_101 (by decide) ?_
                have eA0 : crM an (kn a) n (i + 1) = ((crM an (kn a) n i) ||| (ol i)) := by first | (rw [crM, if_pos c85]; done) | (rw [crM, if_neg (fun h => Bool.noConfusion (c85.symm.trans h)), or0]; done)
                exact ih (i + 1) _ (by omega) (by omega) (by rw [eA0]; exact lv_sub hl [2, 3, 1, 0] rfl)
            · refine lv_iload hx hb dX1_criticals_39 (lv_at hl 4 rfl) ?_
              refine eg_ifeq_b (tgt := 82) hx hb dX1_criticals_41 (by decide) (fun c41 => ?_) (fun c41 => ?_)
              · have e5 : crj an (kn a) i m9 = crj an (kn a) i n := by first | exact crj_end g2 c41 | rw [show m9 = n by omega]
                rw [e5] at hl
                refine lv_lload_n hx hb dX1_criticals_82 rfl (lv_at hl 2 rfl) ?_
                refine lv_iload hx hb dX1_criticals_83 (lv_at hl 4 rfl) ?_
                refine eg_ifeq_b (tgt := 95) hx hb dX1_criticals_85 (by decide) (fun c85 => ?_) (fun c85 => ?_)
                · refine lv_lconst (v := 0) hx hb dX1_criticals_95 (by decide) ?_
                  refine lv_lor hx hb dX1_criticals_96 ?_
                  refine lv_lstore_n (lv' := [(2, .long ((crM an (kn a) n i) ||| 0)), (0, .ref (q 0)), (1, .int (nI a)), (4, .int (nI i)), (5, .int (eb (crj an (kn a) i n))), (6, .int (nI m9))]) hx hb dX1_criticals_97 rfl hl (by decide) rfl (fun ls hl => ?_)
                  refine lv_iinc (v := nI (i + 1)) (lv' := [(4, .int (nI (i + 1))), (2, .long ((crM an (kn a) n i) ||| 0)), (0, .ref (q 0)), (1, .int (nI a)), (5, .int (eb (crj an (kn a) i n))), (6, .int (nI m9))]) hx hb dX1_criticals_98 hl (k := 3) rfl (eg_inc1 _) (by decide) rfl (fun ls hl => ?_)
                  refine lv_goto (tgt := 5) hx hb dX1_criticals_101 (by decide) ?_
                  have eA0 : crM an (kn a) n (i + 1) = ((crM an (kn a) n i) ||| 0) := by first | (rw [crM, if_pos c85]; done) | (rw [crM, if_neg (fun h => Bool.noConfusion (c85.symm.trans h)), or0]; done)
                  exact ih (i + 1) _ (by omega) (by omega) (by rw [eA0]; exact lv_sub hl [2, 3, 1, 0] rfl)
                · refine lv_lconst (v := 1) hx hb dX1_criticals_88 (by decide) ?_
                  refine lv_iload hx hb dX1_criticals_89 (lv_at hl 3 rfl) ?_
                  refine lv_lshl (v := (1 <<< ((nI i).toInt64 &&& 63))) hx hb dX1_criticals_91 rfl ?_
                  refine lv_goto (tgt := 96) hx hb dX1_criticals_92 (by decide) ?_
                  rw [ol_shl i (by omega)]
                  refine lv_lor hx hb dX1_criticals_96 ?_
                  refine lv_lstore_n (lv' := [(2, .long ((crM an (kn a) n i) ||| (ol i))), (0, .ref (q 0)), (1, .int (nI a)), (4, .int (nI i)), (5, .int (eb (crj an (kn a) i n))), (6, .int (nI m9))]) hx hb dX1_criticals_97 rfl hl (by decide) rfl (fun ls hl => ?_)
                  refine lv_iinc (v := nI (i + 1)) (lv' := [(4, .int (nI (i + 1))), (2, .long ((crM an (kn a) n i) ||| (ol i))), (0, .ref (q 0)), (1, .int (nI a)), (5, .int (eb (crj an (kn a) i n))), (6, .int (nI m9))]) hx hb dX1_criticals_98 hl (k := 3) rfl (eg_inc1 _) (by decide) rfl (fun ls hl => ?_)
                  refine lv_goto (tgt := 5) hx hb dX1_criticals_101 (by decide) ?_
                  have eA0 : crM an (kn a) n (i + 1) = ((crM an (kn a) n i) ||| (ol i)) := by first | (rw [crM, if_pos c85]; done) | (rw [crM, if_neg (fun h => Bool.noConfusion (c85.symm.trans h)), or0]; done)
                  exact ih (i + 1) _ (by omega) (by omega) (by rw [eA0]; exact lv_sub hl [2, 3, 1, 0] rfl)
              · refine lv_aload_n hx hb dX1_criticals_44 rfl (lv_at hl 0 rfl) ?_
                refine va_get (D := D) (ci := 1) (v := .ref (q 6)) (C := RX1) (T := TX1) (N := 10) hx hb hts hin hown hK hP 0 rfl rfl 6 (by decide) (hts (.fieldLink RX1 26 "EditGraphModel" "knows" "[J") (by decide +kernel)) (fun _ h9 => h9) rfl dX1_criticals_45 ?_
                refine lv_iload_n hx hb dX1_criticals_48 rfl (lv_at hl 1 rfl) ?_
                refine eg_lald hx hb hK hP 6 1 rfl rfl (by omega) (by decide) dX1_criticals_49 ?_
                refine lv_iload hx hb dX1_criticals_50 (lv_at hl 5 rfl) ?_
                refine eg_callS (As := [.long (kn a), .int (nI m9)]) (rest := []) hx hb hml hown hts hK (c_X1_has l D cI cJ (kn a) m9 (by omega)) (va_cwS 2 hts gX1_criticals_X1_has rfl rfl rfl (by decide +kernel) ⟨Nat.le_of_ble_eq_true rfl, Nat.le_of_ble_eq_true rfl⟩) rfl hl.1 rfl (Nat.le_of_ble_eq_true rfl) dX1_criticals_52 ⟨Nat.zero_le _, Nat.zero_le _⟩ ?_
                refine eg_ifeq_b (tgt := 69) hx hb dX1_criticals_55 (by decide) (fun c55 => ?_) (fun c55 => ?_)
                · refine lv_iconst (v := nI 1) hx hb dX1_criticals_69 (by decide +kernel) ?_
                  refine lv_goto (tgt := 74) hx hb dX1_criticals_70 (by decide) ?_
                  refine lv_istore (lv' := [(5, .int (nI 1)), (0, .ref (q 0)), (1, .int (nI a)), (2, .long (crM an (kn a) n i)), (4, .int (nI i)), (6, .int (nI m9))]) hx hb dX1_criticals_74 hl (by decide) rfl (fun ls hl => ?_)
                  refine lv_iinc (v := nI (m9 + 1)) (lv' := [(6, .int (nI (m9 + 1))), (5, .int (nI 1)), (0, .ref (q 0)), (1, .int (nI a)), (2, .long (crM an (kn a) n i)), (4, .int (nI i))]) hx hb dX1_criticals_76 hl (k := 5) rfl (eg_inc1 _) (by decide) rfl (fun ls hl => ?_)
                  refine lv_goto (tgt := 30) hx hb dX1_criticals_79 (by decide) ?_
                  have eA : nI 1 = eb (crj an (kn a) i (m9 + 1)) := by first | exact crj_t c41 (Or.inl c55) | exact crj_t c41 (Or.inr c66)
                  exact ihI (m9 + 1) _ (by omega) (by omega) (by rw [← eA]; exact lv_sub hl [2, 3, 4, 5, 1, 0] rfl)
                · refine lv_aload_n hx hb dX1_criticals_58 rfl (lv_at hl 0 rfl) ?_
                  refine lv_iload hx hb dX1_criticals_59 (lv_at hl 5 rfl) ?_
                  refine lv_iload hx hb dX1_criticals_61 (lv_at hl 3 rfl) ?_
                  refine eg_callV (As := [.int (nI m9), .int (nI i)]) (rest := []) hx hb hml hown hts hK hP (c_X1_areConcurrent l D cI cJ q n mk lt tg pa an kn row len thr m9 i (by omega) (by omega)) (cwV 2 hts gX1_criticals_X1_areConcurrent rfl rfl rfl (by decide +kernel) ⟨Nat.le_of_ble_eq_true rfl, Nat.le_of_ble_eq_true rfl⟩) (va_recv hK hP (ci := 1) (q0 := 0) rfl rfl) rfl hl.1 rfl (Nat.le_of_ble_eq_true rfl) dX1_criticals_63 ⟨Nat.zero_le _, Nat.zero_le _⟩ ?_
                  refine eg_ifne_b (tgt := 73) hx hb dX1_criticals_66 (by decide) (fun c66 => ?_) (fun c66 => ?_)
                  · refine lv_iconst (v := nI 0) hx hb dX1_criticals_73 (by decide +kernel) ?_
                    refine lv_istore (lv' := [(5, .int (nI 0)), (0, .ref (q 0)), (1, .int (nI a)), (2, .long (crM an (kn a) n i)), (4, .int (nI i)), (6, .int (nI m9))]) hx hb dX1_criticals_74 hl (by decide) rfl (fun ls hl => ?_)
                    refine lv_iinc (v := nI (m9 + 1)) (lv' := [(6, .int (nI (m9 + 1))), (5, .int (nI 0)), (0, .ref (q 0)), (1, .int (nI a)), (2, .long (crM an (kn a) n i)), (4, .int (nI i))]) hx hb dX1_criticals_76 hl (k := 5) rfl (eg_inc1 _) (by decide) rfl (fun ls hl => ?_)
                    refine lv_goto (tgt := 30) hx hb dX1_criticals_79 (by decide) ?_
                    have eA : nI 0 = eb (crj an (kn a) i (m9 + 1)) := by first | exact crj_z c55 c66
                    exact ihI (m9 + 1) _ (by omega) (by omega) (by rw [← eA]; exact lv_sub hl [2, 3, 4, 5, 1, 0] rfl)
                  · refine lv_iconst (v := nI 1) hx hb dX1_criticals_69 (by decide +kernel) ?_
                    refine lv_goto (tgt := 74) hx hb dX1_criticals_70 (by decide) ?_
                    refine lv_istore (lv' := [(5, .int (nI 1)), (0, .ref (q 0)), (1, .int (nI a)), (2, .long (crM an (kn a) n i)), (4, .int (nI i)), (6, .int (nI m9))]) hx hb dX1_criticals_74 hl (by decide) rfl (fun ls hl => ?_)
                    refine lv_iinc (v := nI (m9 + 1)) (lv' := [(6, .int (nI (m9 + 1))), (5, .int (nI 1)), (0, .ref (q 0)), (1, .int (nI a)), (2, .long (crM an (kn a) n i)), (4, .int (nI i))]) hx hb dX1_criticals_76 hl (k := 5) rfl (eg_inc1 _) (by decide) rfl (fun ls hl => ?_)
                    refine lv_goto (tgt := 30) hx hb dX1_criticals_79 (by decide) ?_
                    have eA : nI 1 = eb (crj an (kn a) i (m9 + 1)) := by first | exact crj_t c41 (Or.inl c55) | exact crj_t c41 (Or.inr c66)
                    exact ihI (m9 + 1) _ (by omega) (by omega) (by rw [← eA]; exact lv_sub hl [2, 3, 4, 5, 1, 0] rfl)
        exact loopI (n + 1) 0 _ (by omega) (by omega) (lv_sub hl [2, 3, 4, 5, 1, 0] rfl)
  refine lv_lconst (v := 0) hx hb dX1_criticals_0 (by decide) ?_
  refine lv_lstore_n (lv' := [(2, .long 0), (0, .ref (q 0)), (1, .int (nI a))]) hx hb dX1_criticals_1 rfl hl (by decide) rfl (fun ls hl => ?_)
  refine lv_iconst (v := nI 0) hx hb dX1_criticals_2 (by decide +kernel) ?_
  refine lv_istore (lv' := [(4, .int (nI 0)), (2, .long 0), (0, .ref (q 0)), (1, .int (nI a))]) hx hb dX1_criticals_3 hl (by decide) rfl (fun ls hl => ?_)
  exact loop (n + 1) 0 _ (by omega) (by omega) (lv_sub hl [2, 3, 1, 0] rfl)
