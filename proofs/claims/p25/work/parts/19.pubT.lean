-- the class's texts and counts (by gen.py, specD.py)
set_option maxHeartbeats 4000000 in
set_option maxRecDepth 100000 in
theorem c_X0_learn (l : Launch) (D : va_G) (cI cJ : ClassId) (q : Nat → Nat) (n : Nat) (mk lt tg : Nat → Int32) (pa an la kn : Nat → Int64) (fb : Int32) (fh nb te wt bh : Nat → Int32) (a : Nat) (b : Nat) (ha : a < 4) (hb4 : b < 4) : eg_MW D (tyL cI cJ) l yX0_learn wsX0_learn ({ frames := 2, cells := 0, slots := 0, locals := 45 }) 0 0 [.ref (q 0), .int (nI a), .int (nI b)] (wX q cI cJ (nI n) mk lt tg pa an la kn fb fh nb te wt bh) (fun r w1 => r = some (.int (nI (pc64 (kn b &&& (kn a ^^^ (-1)))))) ∧ w1 = wX q cI cJ (nI n) mk lt tg pa an la (vp_updL kn a (kn a ||| kn b)) fb fh nb te wt bh) := by
  refine Met.ofW (cc := cX0_learn) (maxL := 3) (ret := (some .int)) (by decide) rfl ?_
  intro p e s m args below meth c s₁ B hml hv
  obtain ⟨rfl, hP, hK, hD0⟩ := hv
  have hx := B.exec
  have hb := B.bytes
  have hr := B.returns
  have hts := atoms_spec (ws := wsX0_learn) B.pre
  have hown : s.vm.findClass RX0 = some m.cls := findClass_of_methodNamed B.named
  have hlocks := B.notSynchronized
  have hD := eg_D_of hD0
  have hS : va_S (eg_A (wX q cI cJ (nI n) mk lt tg pa an la kn fb fh nb te wt bh)) s.heap s.heap [] := va_S.rf
  have hin : ∀ w ∈ u_ws RX0 TX0 14, w ∈ wsX0_learn := by decide +kernel
  have hl := lv_entry ([.ref (q 0), .int (nI a), .int (nI b)]) (n := 3) (Nat.le_of_ble_eq_true rfl)
  rw [lg_entry_eq]
  generalize (lg_sl ([.ref (q 0), .int (nI a), .int (nI b)]) ++ List.replicate (3 - (lg_sl ([.ref (q 0), .int (nI a), .int (nI b)])).length) Slot.unset).toArray = ls at hl ⊢
  have hl : lv_has ls 3 [(0, .ref (q 0)), (1, .int (nI a)), (2, .int (nI b))] := hl
  generalize h0H : s.heap = H at hP ⊢
  have hS : va_S (eg_A (wX q cI cJ (nI n) mk lt tg pa an la kn fb fh nb te wt bh)) s.heap H [] := by rw [← h0H]; exact hS
  generalize ([] : List Loc) = locs at hS ⊢
  refine lv_aload_n hx hb dX0_learn_0 rfl (lv_at hl 0 rfl) ?_
  refine lv_iload_n hx hb dX0_learn_1 rfl (lv_at hl 1 rfl) ?_
  refine eg_callV (As := [.int (nI a)]) (rest := []) hx hb hml hown hts hK hP (c_X0_checkAuthor l D cI cJ q n mk lt tg pa an la kn fb fh nb te wt bh a (by omega)) (cwV 1 hts gX0_learn_X0_checkAuthor rfl rfl rfl (by decide +kernel) ⟨Nat.le_of_ble_eq_true rfl, Nat.le_of_ble_eq_true rfl⟩) (va_recv hK hP (ci := 0) (q0 := 0) rfl rfl) rfl hl.1 rfl (Nat.le_of_ble_eq_true rfl) dX0_learn_2 ⟨Nat.zero_le _, Nat.zero_le _⟩ ?_
  refine lv_aload_n hx hb dX0_learn_5 rfl (lv_at hl 0 rfl) ?_
  refine lv_iload_n hx hb dX0_learn_6 rfl (lv_at hl 2 rfl) ?_
  refine eg_callV (As := [.int (nI b)]) (rest := []) hx hb hml hown hts hK hP (c_X0_checkAuthor l D cI cJ q n mk lt tg pa an la kn fb fh nb te wt bh b (by omega)) (cwV 1 hts gX0_learn_X0_checkAuthor rfl rfl rfl (by decide +kernel) ⟨Nat.le_of_ble_eq_true rfl, Nat.le_of_ble_eq_true rfl⟩) (va_recv hK hP (ci := 0) (q0 := 0) rfl rfl) rfl hl.1 rfl (Nat.le_of_ble_eq_true rfl) dX0_learn_7 ⟨Nat.zero_le _, Nat.zero_le _⟩ ?_
  refine lv_aload_n hx hb dX0_learn_10 rfl (lv_at hl 0 rfl) ?_
  refine lv_iload_n hx hb dX0_learn_11 rfl (lv_at hl 1 rfl) ?_
  refine lv_aload_n hx hb dX0_learn_12 rfl (lv_at hl 0 rfl) ?_
  refine va_get (D := D) (ci := 0) (v := .ref (q 7)) (C := RX0) (T := TX0) (N := 14) hx hb hts hin hown hK hP 0 rfl rfl 7 (by decide) (hts (.fieldLink RX0 33 "EditGraph" "knownSets" "[J") (by decide +kernel)) (fun _ h9 => h9) rfl dX0_learn_13 ?_
  refine lv_iload_n hx hb dX0_learn_16 rfl (lv_at hl 2 rfl) ?_
  refine eg_lald hx hb hK hP 7 1 rfl rfl (by omega) (by decide) dX0_learn_17 ?_
  refine eg_callWV (As := [.int (nI a), .long (kn b)]) (rest := []) hx hb hml hown hts hK hP hD rfl hS (c_X0_addKnown l D cI cJ q n mk lt tg pa an la kn fb fh nb te wt bh a (kn b) ha) (cwV 2 hts gX0_learn_X0_addKnown rfl rfl rfl (by decide +kernel) ⟨Nat.le_of_ble_eq_true rfl, Nat.le_of_ble_eq_true rfl⟩) (va_recv hK hP (ci := 0) (q0 := 0) rfl rfl) rfl hl.1 rfl (Nat.le_of_ble_eq_true rfl) dX0_learn_18 ⟨Nat.zero_le _, Nat.zero_le _⟩ (fun v9 w9 H locs hR9 hw9 hP hS => ?_)
  obtain ⟨rfl, rfl⟩ := hR9
  exact W.iret hx hb hr (fun t9 ht9 _ => ⟨some (.int (nI (pc64 (kn b &&& (kn a ^^^ (-1)))))), (wX q cI cJ (nI n) mk lt tg pa an la (vp_updL kn a (kn a ||| kn b)) fb fh nb te wt bh), rfl, ⟨rfl, rfl⟩, rfl, by rw [ht9]; exact hP, hS.F ht9⟩) hS.2.2 dX0_learn_21
set_option maxHeartbeats 4000000 in
set_option maxRecDepth 100000 in
theorem c_X0_learnEvent (l : Launch) (D : va_G) (cI cJ : ClassId) (q : Nat → Nat) (n : Nat) (mk lt tg : Nat → Int32) (pa an la kn : Nat → Int64) (fb : Int32) (fh nb te wt bh : Nat → Int32) (a : Nat) (e0 : Nat) (hI : Inv n lt tg an kn) (ha : a < 4) (he : e0 < n) : eg_MW D (tyL cI cJ) l yX0_learnEvent wsX0_learnEvent ({ frames := 2, cells := 0, slots := 0, locals := 45 }) 0 0 [.ref (q 0), .int (nI a), .int (nI e0)] (wX q cI cJ (nI n) mk lt tg pa an la kn fb fh nb te wt bh) (fun r w1 => r = some (.int (nI (pc64 ((an e0 ||| ol e0) &&& (kn a ^^^ (-1)))))) ∧ w1 = wX q cI cJ (nI n) mk lt tg pa an la (vp_updL kn a (kn a ||| (an e0 ||| ol e0))) fb fh nb te wt bh) := by
  have hI1 := hI.1
  refine Met.ofW (cc := cX0_learnEvent) (maxL := 3) (ret := (some .int)) (by decide) rfl ?_
  intro p e s m args below meth c s₁ B hml hv
  obtain ⟨rfl, hP, hK, hD0⟩ := hv
  have hx := B.exec
  have hb := B.bytes
  have hr := B.returns
  have hts := atoms_spec (ws := wsX0_learnEvent) B.pre
  have hown : s.vm.findClass RX0 = some m.cls := findClass_of_methodNamed B.named
  have hlocks := B.notSynchronized
  have hD := eg_D_of hD0
  have hS : va_S (eg_A (wX q cI cJ (nI n) mk lt tg pa an la kn fb fh nb te wt bh)) s.heap s.heap [] := va_S.rf
  have hl := lv_entry ([.ref (q 0), .int (nI a), .int (nI e0)]) (n := 3) (Nat.le_of_ble_eq_true rfl)
  rw [lg_entry_eq]
  generalize (lg_sl ([.ref (q 0), .int (nI a), .int (nI e0)]) ++ List.replicate (3 - (lg_sl ([.ref (q 0), .int (nI a), .int (nI e0)])).length) Slot.unset).toArray = ls at hl ⊢
  have hl : lv_has ls 3 [(0, .ref (q 0)), (1, .int (nI a)), (2, .int (nI e0))] := hl
  generalize h0H : s.heap = H at hP ⊢
  have hS : va_S (eg_A (wX q cI cJ (nI n) mk lt tg pa an la kn fb fh nb te wt bh)) s.heap H [] := by rw [← h0H]; exact hS
  generalize ([] : List Loc) = locs at hS ⊢
  refine lv_aload_n hx hb dX0_learnEvent_0 rfl (lv_at hl 0 rfl) ?_
  refine lv_iload_n hx hb dX0_learnEvent_1 rfl (lv_at hl 1 rfl) ?_
  refine eg_callV (As := [.int (nI a)]) (rest := []) hx hb hml hown hts hK hP (c_X0_checkAuthor l D cI cJ q n mk lt tg pa an la kn fb fh nb te wt bh a (by omega)) (cwV 1 hts gX0_learnEvent_X0_checkAuthor rfl rfl rfl (by decide +kernel) ⟨Nat.le_of_ble_eq_true rfl, Nat.le_of_ble_eq_true rfl⟩) (va_recv hK hP (ci := 0) (q0 := 0) rfl rfl) rfl hl.1 rfl (Nat.le_of_ble_eq_true rfl) dX0_learnEvent_2 ⟨Nat.zero_le _, Nat.zero_le _⟩ ?_
  refine lv_aload_n hx hb dX0_learnEvent_5 rfl (lv_at hl 0 rfl) ?_
  refine lv_iload_n hx hb dX0_learnEvent_6 rfl (lv_at hl 2 rfl) ?_
  refine eg_callV (As := [.int (nI e0)]) (rest := []) hx hb hml hown hts hK hP (c_X0_checkEvent l D cI cJ q n mk lt tg pa an la kn fb fh nb te wt bh e0 hI.1 (by omega)) (cwV 1 hts gX0_learnEvent_X0_checkEvent rfl rfl rfl (by decide +kernel) ⟨Nat.le_of_ble_eq_true rfl, Nat.le_of_ble_eq_true rfl⟩) (va_recv hK hP (ci := 0) (q0 := 0) rfl rfl) rfl hl.1 rfl (Nat.le_of_ble_eq_true rfl) dX0_learnEvent_7 ⟨Nat.zero_le _, Nat.zero_le _⟩ ?_
  refine lv_aload_n hx hb dX0_learnEvent_10 rfl (lv_at hl 0 rfl) ?_
  refine lv_iload_n hx hb dX0_learnEvent_11 rfl (lv_at hl 1 rfl) ?_
  refine lv_aload_n hx hb dX0_learnEvent_12 rfl (lv_at hl 0 rfl) ?_
  refine lv_iload_n hx hb dX0_learnEvent_13 rfl (lv_at hl 2 rfl) ?_
  refine eg_callV (As := [.int (nI e0)]) (rest := [.int (nI a), .ref (q 0)]) hx hb hml hown hts hK hP (c_X0_versionOfEvent l D cI cJ q n mk lt tg pa an la kn fb fh nb te wt bh e0 (by omega)) (cwV 1 hts gX0_learnEvent_X0_versionOfEvent rfl rfl rfl (by decide +kernel) ⟨Nat.le_of_ble_eq_true rfl, Nat.le_of_ble_eq_true rfl⟩) (va_recv hK hP (ci := 0) (q0 := 0) rfl rfl) rfl hl.1 rfl (Nat.le_of_ble_eq_true rfl) dX0_learnEvent_14 ⟨Nat.zero_le _, Nat.zero_le _⟩ ?_
  refine eg_callWV (As := [.int (nI a), .long (an e0 ||| ol e0)]) (rest := []) hx hb hml hown hts hK hP hD rfl hS (c_X0_addKnown l D cI cJ q n mk lt tg pa an la kn fb fh nb te wt bh a (an e0 ||| ol e0) ha) (cwV 2 hts gX0_learnEvent_X0_addKnown rfl rfl rfl (by decide +kernel) ⟨Nat.le_of_ble_eq_true rfl, Nat.le_of_ble_eq_true rfl⟩) (va_recv hK hP (ci := 0) (q0 := 0) rfl rfl) rfl hl.1 rfl (Nat.le_of_ble_eq_true rfl) dX0_learnEvent_17 ⟨Nat.zero_le _, Nat.zero_le _⟩ (fun v9 w9 H locs hR9 hw9 hP hS => ?_)
  obtain ⟨rfl, rfl⟩ := hR9
  exact W.iret hx hb hr (fun t9 ht9 _ => ⟨some (.int (nI (pc64 ((an e0 ||| ol e0) &&& (kn a ^^^ (-1)))))), (wX q cI cJ (nI n) mk lt tg pa an la (vp_updL kn a (kn a ||| (an e0 ||| ol e0))) fb fh nb te wt bh), rfl, ⟨rfl, rfl⟩, rfl, by rw [ht9]; exact hP, hS.F ht9⟩) hS.2.2 dX0_learnEvent_20
set_option maxHeartbeats 4000000 in
set_option maxRecDepth 100000 in
theorem c_X0_length (l : Launch) (D : va_G) (cI cJ : ClassId) (q : Nat → Nat) (n : Nat) (mk lt tg : Nat → Int32) (pa an la kn : Nat → Int64) (fb : Int32) (fh nb te wt bh : Nat → Int32) (a : Nat) (hI : Inv n lt tg an kn) (htr : ∃ f, Tr n fh nb f fb (lay (ins lt) tg n)) (ha : a < 4) : eg_MW D (tyL cI cJ) l yX0_length wsX0_length ({ frames := 4, cells := 0, slots := 0, locals := 97 }) 0 0 [.ref (q 0), .int (nI a)] (wX q cI cJ (nI n) mk lt tg pa an la kn fb fh nb te wt bh) (fun r w1 => ∃ (te' wt' : Nat → Int32), r = some (.int (nI (tx n lt tg (kn a)).length)) ∧ w1 = wX q cI cJ (nI n) mk lt tg pa an la kn fb fh nb te' wt' bh) := by
  refine Met.ofW (cc := cX0_length) (maxL := 2) (ret := (some .int)) (by decide) rfl ?_
  intro p e s m args below meth c s₁ B hml hv
  obtain ⟨rfl, hP, hK, hD0⟩ := hv
  have hx := B.exec
  have hb := B.bytes
  have hr := B.returns
  have hts := atoms_spec (ws := wsX0_length) B.pre
  have hown : s.vm.findClass RX0 = some m.cls := findClass_of_methodNamed B.named
  have hlocks := B.notSynchronized
  have hD := eg_D_of hD0
  have hS : va_S (eg_A (wX q cI cJ (nI n) mk lt tg pa an la kn fb fh nb te wt bh)) s.heap s.heap [] := va_S.rf
  have hin : ∀ w ∈ u_ws RX0 TX0 14, w ∈ wsX0_length := by decide +kernel
  have hl := lv_entry ([.ref (q 0), .int (nI a)]) (n := 2) (Nat.le_of_ble_eq_true rfl)
  rw [lg_entry_eq]
  generalize (lg_sl ([.ref (q 0), .int (nI a)]) ++ List.replicate (2 - (lg_sl ([.ref (q 0), .int (nI a)])).length) Slot.unset).toArray = ls at hl ⊢
  have hl : lv_has ls 2 [(0, .ref (q 0)), (1, .int (nI a))] := hl
  generalize h0H : s.heap = H at hP ⊢
  have hS : va_S (eg_A (wX q cI cJ (nI n) mk lt tg pa an la kn fb fh nb te wt bh)) s.heap H [] := by rw [← h0H]; exact hS
  generalize ([] : List Loc) = locs at hS ⊢
  refine lv_aload_n hx hb dX0_length_0 rfl (lv_at hl 0 rfl) ?_
  refine lv_iload_n hx hb dX0_length_1 rfl (lv_at hl 1 rfl) ?_
  refine eg_callV (As := [.int (nI a)]) (rest := []) hx hb hml hown hts hK hP (c_X0_checkAuthor l D cI cJ q n mk lt tg pa an la kn fb fh nb te wt bh a (by omega)) (cwV 1 hts gX0_length_X0_checkAuthor rfl rfl rfl (by decide +kernel) ⟨Nat.le_of_ble_eq_true rfl, Nat.le_of_ble_eq_true rfl⟩) (va_recv hK hP (ci := 0) (q0 := 0) rfl rfl) rfl hl.1 rfl (Nat.le_of_ble_eq_true rfl) dX0_length_2 ⟨Nat.zero_le _, Nat.zero_le _⟩ ?_
  refine lv_aload_n hx hb dX0_length_5 rfl (lv_at hl 0 rfl) ?_
  refine lv_aload_n hx hb dX0_length_6 rfl (lv_at hl 0 rfl) ?_
  refine va_get (D := D) (ci := 0) (v := .ref (q 7)) (C := RX0) (T := TX0) (N := 14) hx hb hts hin hown hK hP 0 rfl rfl 7 (by decide) (hts (.fieldLink RX0 33 "EditGraph" "knownSets" "[J") (by decide +kernel)) (fun _ h9 => h9) rfl dX0_length_7 ?_
  refine lv_iload_n hx hb dX0_length_10 rfl (lv_at hl 1 rfl) ?_
  refine eg_lald hx hb hK hP 7 1 rfl rfl (by omega) (by decide) dX0_length_11 ?_
  have e9 := tx_all hI (hI.vk ha)
  refine eg_callWV (As := [.long (kn a)]) (rest := []) hx hb hml hown hts hK hP hD rfl hS (c_X0_findText l D cI cJ q n mk lt tg pa an la kn fb fh nb te wt bh (kn a) (lay (ins lt) tg n) hI.1 hI.hdl htr (Nat.le_trans (lay_len n (lay_nodup (Nat.le_trans hI.1 (by decide)) hI.hangA)) hI.1)) (cwV 1 hts gX0_length_X0_findText rfl rfl rfl (by decide +kernel) ⟨Nat.le_of_ble_eq_true rfl, Nat.le_of_ble_eq_true rfl⟩) (va_recv hK hP (ci := 0) (q0 := 0) rfl rfl) rfl hl.1 rfl (Nat.le_of_ble_eq_true rfl) dX0_length_12 ⟨Nat.zero_le _, Nat.zero_le _⟩ (fun v9 w9 H locs hR9 hw9 hP hS => ?_)
  obtain ⟨te1, wt1, rfl, rfl, hh1⟩ := hR9
  rw [e9] at hh1 ⊢
  have hT9 := tx_len hI (hI.vk ha)
  have hI1 := hI.1
  exact W.iret hx hb hr (fun t9 ht9 _ => ⟨some (.int (nI ((tx n lt tg (kn a)).length))), (wX q cI cJ (nI n) mk lt tg pa an la kn fb fh nb te1 wt1 bh), rfl, ⟨te1, wt1, rfl, rfl⟩, rfl, by rw [ht9]; exact hP, hS.F ht9⟩) hS.2.2 dX0_length_15
set_option maxHeartbeats 4000000 in
set_option maxRecDepth 100000 in
theorem c_X0_lengthOf (l : Launch) (D : va_G) (cI cJ : ClassId) (q : Nat → Nat) (n : Nat) (mk lt tg : Nat → Int32) (pa an la kn : Nat → Int64) (fb : Int32) (fh nb te wt bh : Nat → Int32) (e0 : Nat) (hI : Inv n lt tg an kn) (htr : ∃ f, Tr n fh nb f fb (lay (ins lt) tg n)) (he : e0 < n) : eg_MW D (tyL cI cJ) l yX0_lengthOf wsX0_lengthOf ({ frames := 4, cells := 0, slots := 0, locals := 97 }) 0 0 [.ref (q 0), .int (nI e0)] (wX q cI cJ (nI n) mk lt tg pa an la kn fb fh nb te wt bh) (fun r w1 => ∃ (te' wt' : Nat → Int32), r = some (.int (nI (tx n lt tg (an e0 ||| ol e0)).length)) ∧ w1 = wX q cI cJ (nI n) mk lt tg pa an la kn fb fh nb te' wt' bh) := by
  have hI1 := hI.1
  refine Met.ofW (cc := cX0_lengthOf) (maxL := 2) (ret := (some .int)) (by decide) rfl ?_
  intro p e s m args below meth c s₁ B hml hv
  obtain ⟨rfl, hP, hK, hD0⟩ := hv
  have hx := B.exec
  have hb := B.bytes
  have hr := B.returns
  have hts := atoms_spec (ws := wsX0_lengthOf) B.pre
  have hown : s.vm.findClass RX0 = some m.cls := findClass_of_methodNamed B.named
  have hlocks := B.notSynchronized
  have hD := eg_D_of hD0
  have hS : va_S (eg_A (wX q cI cJ (nI n) mk lt tg pa an la kn fb fh nb te wt bh)) s.heap s.heap [] := va_S.rf
  have hl := lv_entry ([.ref (q 0), .int (nI e0)]) (n := 2) (Nat.le_of_ble_eq_true rfl)
  rw [lg_entry_eq]
  generalize (lg_sl ([.ref (q 0), .int (nI e0)]) ++ List.replicate (2 - (lg_sl ([.ref (q 0), .int (nI e0)])).length) Slot.unset).toArray = ls at hl ⊢
  have hl : lv_has ls 2 [(0, .ref (q 0)), (1, .int (nI e0))] := hl
  generalize h0H : s.heap = H at hP ⊢
  have hS : va_S (eg_A (wX q cI cJ (nI n) mk lt tg pa an la kn fb fh nb te wt bh)) s.heap H [] := by rw [← h0H]; exact hS
  generalize ([] : List Loc) = locs at hS ⊢
  refine lv_aload_n hx hb dX0_lengthOf_0 rfl (lv_at hl 0 rfl) ?_
  refine lv_iload_n hx hb dX0_lengthOf_1 rfl (lv_at hl 1 rfl) ?_
  refine eg_callV (As := [.int (nI e0)]) (rest := []) hx hb hml hown hts hK hP (c_X0_checkEvent l D cI cJ q n mk lt tg pa an la kn fb fh nb te wt bh e0 hI.1 (by omega)) (cwV 1 hts gX0_lengthOf_X0_checkEvent rfl rfl rfl (by decide +kernel) ⟨Nat.le_of_ble_eq_true rfl, Nat.le_of_ble_eq_true rfl⟩) (va_recv hK hP (ci := 0) (q0 := 0) rfl rfl) rfl hl.1 rfl (Nat.le_of_ble_eq_true rfl) dX0_lengthOf_2 ⟨Nat.zero_le _, Nat.zero_le _⟩ ?_
  refine lv_aload_n hx hb dX0_lengthOf_5 rfl (lv_at hl 0 rfl) ?_
  refine lv_aload_n hx hb dX0_lengthOf_6 rfl (lv_at hl 0 rfl) ?_
  refine lv_iload_n hx hb dX0_lengthOf_7 rfl (lv_at hl 1 rfl) ?_
  refine eg_callV (As := [.int (nI e0)]) (rest := [.ref (q 0)]) hx hb hml hown hts hK hP (c_X0_versionOfEvent l D cI cJ q n mk lt tg pa an la kn fb fh nb te wt bh e0 (by omega)) (cwV 1 hts gX0_lengthOf_X0_versionOfEvent rfl rfl rfl (by decide +kernel) ⟨Nat.le_of_ble_eq_true rfl, Nat.le_of_ble_eq_true rfl⟩) (va_recv hK hP (ci := 0) (q0 := 0) rfl rfl) rfl hl.1 rfl (Nat.le_of_ble_eq_true rfl) dX0_lengthOf_8 ⟨Nat.zero_le _, Nat.zero_le _⟩ ?_
  have e9 := tx_all hI (hI.ve he)
  refine eg_callWV (As := [.long (an e0 ||| ol e0)]) (rest := []) hx hb hml hown hts hK hP hD rfl hS (c_X0_findText l D cI cJ q n mk lt tg pa an la kn fb fh nb te wt bh (an e0 ||| ol e0) (lay (ins lt) tg n) hI.1 hI.hdl htr (Nat.le_trans (lay_len n (lay_nodup (Nat.le_trans hI.1 (by decide)) hI.hangA)) hI.1)) (cwV 1 hts gX0_lengthOf_X0_findText rfl rfl rfl (by decide +kernel) ⟨Nat.le_of_ble_eq_true rfl, Nat.le_of_ble_eq_true rfl⟩) (va_recv hK hP (ci := 0) (q0 := 0) rfl rfl) rfl hl.1 rfl (Nat.le_of_ble_eq_true rfl) dX0_lengthOf_11 ⟨Nat.zero_le _, Nat.zero_le _⟩ (fun v9 w9 H locs hR9 hw9 hP hS => ?_)
  obtain ⟨te1, wt1, rfl, rfl, hh1⟩ := hR9
  rw [e9] at hh1 ⊢
  have hT9 := tx_len hI (hI.ve he)
  have hI1 := hI.1
  exact W.iret hx hb hr (fun t9 ht9 _ => ⟨some (.int (nI ((tx n lt tg (an e0 ||| ol e0)).length))), (wX q cI cJ (nI n) mk lt tg pa an la kn fb fh nb te1 wt1 bh), rfl, ⟨te1, wt1, rfl, rfl⟩, rfl, by rw [ht9]; exact hP, hS.F ht9⟩) hS.2.2 dX0_lengthOf_14
set_option maxHeartbeats 4000000 in
set_option maxRecDepth 100000 in
theorem c_X0_letterAt (l : Launch) (D : va_G) (cI cJ : ClassId) (q : Nat → Nat) (n : Nat) (mk lt tg : Nat → Int32) (pa an la kn : Nat → Int64) (fb : Int32) (fh nb te wt bh : Nat → Int32) (a : Nat) (pp : Nat) (hI : Inv n lt tg an kn) (htr : ∃ f, Tr n fh nb f fb (lay (ins lt) tg n)) (ha : a < 4) (hp : pp < (tx n lt tg (kn a)).length) : eg_MW D (tyL cI cJ) l yX0_letterAt wsX0_letterAt ({ frames := 5, cells := 0, slots := 0, locals := 121 }) 0 0 [.ref (q 0), .int (nI a), .int (nI pp)] (wX q cI cJ (nI n) mk lt tg pa an la kn fb fh nb te wt bh) (fun r w1 => ∃ (te' wt' : Nat → Int32) (x : Nat), (tx n lt tg (kn a))[pp]? = some x ∧ r = some (.int (lt x)) ∧ w1 = wX q cI cJ (nI n) mk lt tg pa an la kn fb fh nb te' wt' bh) := by
  refine Met.ofW (cc := cX0_letterAt) (maxL := 3) (ret := (some .int)) (by decide) rfl ?_
  intro p e s m args below meth c s₁ B hml hv
  obtain ⟨rfl, hP, hK, hD0⟩ := hv
  have hx := B.exec
  have hb := B.bytes
  have hr := B.returns
  have hts := atoms_spec (ws := wsX0_letterAt) B.pre
  have hown : s.vm.findClass RX0 = some m.cls := findClass_of_methodNamed B.named
  have hlocks := B.notSynchronized
  have hD := eg_D_of hD0
  have hS : va_S (eg_A (wX q cI cJ (nI n) mk lt tg pa an la kn fb fh nb te wt bh)) s.heap s.heap [] := va_S.rf
  have hin : ∀ w ∈ u_ws RX0 TX0 14, w ∈ wsX0_letterAt := by decide +kernel
  have hl := lv_entry ([.ref (q 0), .int (nI a), .int (nI pp)]) (n := 3) (Nat.le_of_ble_eq_true rfl)
  rw [lg_entry_eq]
  generalize (lg_sl ([.ref (q 0), .int (nI a), .int (nI pp)]) ++ List.replicate (3 - (lg_sl ([.ref (q 0), .int (nI a), .int (nI pp)])).length) Slot.unset).toArray = ls at hl ⊢
  have hl : lv_has ls 3 [(0, .ref (q 0)), (1, .int (nI a)), (2, .int (nI pp))] := hl
  generalize h0H : s.heap = H at hP ⊢
  have hS : va_S (eg_A (wX q cI cJ (nI n) mk lt tg pa an la kn fb fh nb te wt bh)) s.heap H [] := by rw [← h0H]; exact hS
  generalize ([] : List Loc) = locs at hS ⊢
  refine lv_aload_n hx hb dX0_letterAt_0 rfl (lv_at hl 0 rfl) ?_
  refine lv_iload_n hx hb dX0_letterAt_1 rfl (lv_at hl 1 rfl) ?_
  refine eg_callV (As := [.int (nI a)]) (rest := []) hx hb hml hown hts hK hP (c_X0_checkAuthor l D cI cJ q n mk lt tg pa an la kn fb fh nb te wt bh a (by omega)) (cwV 1 hts gX0_letterAt_X0_checkAuthor rfl rfl rfl (by decide +kernel) ⟨Nat.le_of_ble_eq_true rfl, Nat.le_of_ble_eq_true rfl⟩) (va_recv hK hP (ci := 0) (q0 := 0) rfl rfl) rfl hl.1 rfl (Nat.le_of_ble_eq_true rfl) dX0_letterAt_2 ⟨Nat.zero_le _, Nat.zero_le _⟩ ?_
  refine lv_aload_n hx hb dX0_letterAt_5 rfl (lv_at hl 0 rfl) ?_
  refine va_get (D := D) (ci := 0) (v := .ref (q 2)) (C := RX0) (T := TX0) (N := 14) hx hb hts hin hown hK hP 0 rfl rfl 2 (by decide) (hts (.fieldLink RX0 17 "EditGraph" "letters" "[I") (by decide +kernel)) (fun _ h9 => h9) rfl dX0_letterAt_6 ?_
  refine lv_aload_n hx hb dX0_letterAt_9 rfl (lv_at hl 0 rfl) ?_
  refine lv_aload_n hx hb dX0_letterAt_10 rfl (lv_at hl 0 rfl) ?_
  refine va_get (D := D) (ci := 0) (v := .ref (q 7)) (C := RX0) (T := TX0) (N := 14) hx hb hts hin hown hK hP 0 rfl rfl 7 (by decide) (hts (.fieldLink RX0 33 "EditGraph" "knownSets" "[J") (by decide +kernel)) (fun _ h9 => h9) rfl dX0_letterAt_11 ?_
  refine lv_iload_n hx hb dX0_letterAt_14 rfl (lv_at hl 1 rfl) ?_
  refine eg_lald hx hb hK hP 7 1 rfl rfl (by omega) (by decide) dX0_letterAt_15 ?_
  refine lv_iload_n hx hb dX0_letterAt_16 rfl (lv_at hl 2 rfl) ?_
  refine eg_callWV (As := [.long (kn a), .int (nI pp)]) (rest := [.ref (q 2)]) hx hb hml hown hts hK hP hD rfl hS (c_X0_eventInText l D cI cJ q n mk lt tg pa an la kn fb fh nb te wt bh (kn a) pp hI htr (hI.vk ha) hp) (cwV 2 hts gX0_letterAt_X0_eventInText rfl rfl rfl (by decide +kernel) ⟨Nat.le_of_ble_eq_true rfl, Nat.le_of_ble_eq_true rfl⟩) (va_recv hK hP (ci := 0) (q0 := 0) rfl rfl) rfl hl.1 rfl (Nat.le_of_ble_eq_true rfl) dX0_letterAt_17 ⟨Nat.zero_le _, Nat.zero_le _⟩ (fun v9 w9 H locs hR9 hw9 hP hS => ?_)
  obtain ⟨te1, wt1, x9, hx9, rfl, rfl⟩ := hR9
  have hI1 := hI.1
  have hxn := (tx_mem (List.mem_of_getElem? hx9)).1
  refine eg_iald hx hb hK hP 2 0 rfl rfl (by omega) (by decide) dX0_letterAt_20 ?_
  exact W.iret hx hb hr (fun t9 ht9 _ => ⟨some (.int (lt x9)), (wX q cI cJ (nI n) mk lt tg pa an la kn fb fh nb te1 wt1 bh), rfl, ⟨te1, wt1, x9, hx9, rfl, rfl⟩, rfl, by rw [ht9]; exact hP, hS.F ht9⟩) hS.2.2 dX0_letterAt_21
set_option maxHeartbeats 4000000 in
set_option maxRecDepth 100000 in
theorem c_X0_eventAt (l : Launch) (D : va_G) (cI cJ : ClassId) (q : Nat → Nat) (n : Nat) (mk lt tg : Nat → Int32) (pa an la kn : Nat → Int64) (fb : Int32) (fh nb te wt bh : Nat → Int32) (a : Nat) (pp : Nat) (hI : Inv n lt tg an kn) (htr : ∃ f, Tr n fh nb f fb (lay (ins lt) tg n)) (ha : a < 4) (hp : pp < (tx n lt tg (kn a)).length) : eg_MW D (tyL cI cJ) l yX0_eventAt wsX0_eventAt ({ frames := 5, cells := 0, slots := 0, locals := 121 }) 0 0 [.ref (q 0), .int (nI a), .int (nI pp)] (wX q cI cJ (nI n) mk lt tg pa an la kn fb fh nb te wt bh) (fun r w1 => ∃ (te' wt' : Nat → Int32) (x : Nat), (tx n lt tg (kn a))[pp]? = some x ∧ r = some (.int (nI x)) ∧ w1 = wX q cI cJ (nI n) mk lt tg pa an la kn fb fh nb te' wt' bh) := by
  refine Met.ofW (cc := cX0_eventAt) (maxL := 3) (ret := (some .int)) (by decide) rfl ?_
  intro p e s m args below meth c s₁ B hml hv
  obtain ⟨rfl, hP, hK, hD0⟩ := hv
  have hx := B.exec
  have hb := B.bytes
  have hr := B.returns
  have hts := atoms_spec (ws := wsX0_eventAt) B.pre
  have hown : s.vm.findClass RX0 = some m.cls := findClass_of_methodNamed B.named
  have hlocks := B.notSynchronized
  have hD := eg_D_of hD0
  have hS : va_S (eg_A (wX q cI cJ (nI n) mk lt tg pa an la kn fb fh nb te wt bh)) s.heap s.heap [] := va_S.rf
  have hin : ∀ w ∈ u_ws RX0 TX0 14, w ∈ wsX0_eventAt := by decide +kernel
  have hl := lv_entry ([.ref (q 0), .int (nI a), .int (nI pp)]) (n := 3) (Nat.le_of_ble_eq_true rfl)
  rw [lg_entry_eq]
  generalize (lg_sl ([.ref (q 0), .int (nI a), .int (nI pp)]) ++ List.replicate (3 - (lg_sl ([.ref (q 0), .int (nI a), .int (nI pp)])).length) Slot.unset).toArray = ls at hl ⊢
  have hl : lv_has ls 3 [(0, .ref (q 0)), (1, .int (nI a)), (2, .int (nI pp))] := hl
  generalize h0H : s.heap = H at hP ⊢
  have hS : va_S (eg_A (wX q cI cJ (nI n) mk lt tg pa an la kn fb fh nb te wt bh)) s.heap H [] := by rw [← h0H]; exact hS
  generalize ([] : List Loc) = locs at hS ⊢
  refine lv_aload_n hx hb dX0_eventAt_0 rfl (lv_at hl 0 rfl) ?_
  refine lv_iload_n hx hb dX0_eventAt_1 rfl (lv_at hl 1 rfl) ?_
  refine eg_callV (As := [.int (nI a)]) (rest := []) hx hb hml hown hts hK hP (c_X0_checkAuthor l D cI cJ q n mk lt tg pa an la kn fb fh nb te wt bh a (by omega)) (cwV 1 hts gX0_eventAt_X0_checkAuthor rfl rfl rfl (by decide +kernel) ⟨Nat.le_of_ble_eq_true rfl, Nat.le_of_ble_eq_true rfl⟩) (va_recv hK hP (ci := 0) (q0 := 0) rfl rfl) rfl hl.1 rfl (Nat.le_of_ble_eq_true rfl) dX0_eventAt_2 ⟨Nat.zero_le _, Nat.zero_le _⟩ ?_
  refine lv_aload_n hx hb dX0_eventAt_5 rfl (lv_at hl 0 rfl) ?_
  refine lv_aload_n hx hb dX0_eventAt_6 rfl (lv_at hl 0 rfl) ?_
  refine va_get (D := D) (ci := 0) (v := .ref (q 7)) (C := RX0) (T := TX0) (N := 14) hx hb hts hin hown hK hP 0 rfl rfl 7 (by decide) (hts (.fieldLink RX0 33 "EditGraph" "knownSets" "[J") (by decide +kernel)) (fun _ h9 => h9) rfl dX0_eventAt_7 ?_
  refine lv_iload_n hx hb dX0_eventAt_10 rfl (lv_at hl 1 rfl) ?_
  refine eg_lald hx hb hK hP 7 1 rfl rfl (by omega) (by decide) dX0_eventAt_11 ?_
  refine lv_iload_n hx hb dX0_eventAt_12 rfl (lv_at hl 2 rfl) ?_
  refine eg_callWV (As := [.long (kn a), .int (nI pp)]) (rest := []) hx hb hml hown hts hK hP hD rfl hS (c_X0_eventInText l D cI cJ q n mk lt tg pa an la kn fb fh nb te wt bh (kn a) pp hI htr (hI.vk ha) hp) (cwV 2 hts gX0_eventAt_X0_eventInText rfl rfl rfl (by decide +kernel) ⟨Nat.le_of_ble_eq_true rfl, Nat.le_of_ble_eq_true rfl⟩) (va_recv hK hP (ci := 0) (q0 := 0) rfl rfl) rfl hl.1 rfl (Nat.le_of_ble_eq_true rfl) dX0_eventAt_13 ⟨Nat.zero_le _, Nat.zero_le _⟩ (fun v9 w9 H locs hR9 hw9 hP hS => ?_)
  obtain ⟨te1, wt1, x9, hx9, rfl, rfl⟩ := hR9
  have hI1 := hI.1
  have hxn := (tx_mem (List.mem_of_getElem? hx9)).1
  exact W.iret hx hb hr (fun t9 ht9 _ => ⟨some (.int (nI x9)), (wX q cI cJ (nI n) mk lt tg pa an la kn fb fh nb te1 wt1 bh), rfl, ⟨te1, wt1, x9, hx9, rfl, rfl⟩, rfl, by rw [ht9]; exact hP, hS.F ht9⟩) hS.2.2 dX0_eventAt_16
set_option maxHeartbeats 4000000 in
set_option maxRecDepth 100000 in
theorem c_X0_letterOf (l : Launch) (D : va_G) (cI cJ : ClassId) (q : Nat → Nat) (n : Nat) (mk lt tg : Nat → Int32) (pa an la kn : Nat → Int64) (fb : Int32) (fh nb te wt bh : Nat → Int32) (e0 : Nat) (pp : Nat) (hI : Inv n lt tg an kn) (htr : ∃ f, Tr n fh nb f fb (lay (ins lt) tg n)) (he : e0 < n) (hp : pp < (tx n lt tg (an e0 ||| ol e0)).length) : eg_MW D (tyL cI cJ) l yX0_letterOf wsX0_letterOf ({ frames := 5, cells := 0, slots := 0, locals := 121 }) 0 0 [.ref (q 0), .int (nI e0), .int (nI pp)] (wX q cI cJ (nI n) mk lt tg pa an la kn fb fh nb te wt bh) (fun r w1 => ∃ (te' wt' : Nat → Int32) (x : Nat), (tx n lt tg (an e0 ||| ol e0))[pp]? = some x ∧ r = some (.int (lt x)) ∧ w1 = wX q cI cJ (nI n) mk lt tg pa an la kn fb fh nb te' wt' bh) := by
  have hI1 := hI.1
  refine Met.ofW (cc := cX0_letterOf) (maxL := 3) (ret := (some .int)) (by decide) rfl ?_
  intro p e s m args below meth c s₁ B hml hv
  obtain ⟨rfl, hP, hK, hD0⟩ := hv
  have hx := B.exec
  have hb := B.bytes
  have hr := B.returns
  have hts := atoms_spec (ws := wsX0_letterOf) B.pre
  have hown : s.vm.findClass RX0 = some m.cls := findClass_of_methodNamed B.named
  have hlocks := B.notSynchronized
  have hD := eg_D_of hD0
  have hS : va_S (eg_A (wX q cI cJ (nI n) mk lt tg pa an la kn fb fh nb te wt bh)) s.heap s.heap [] := va_S.rf
  have hin : ∀ w ∈ u_ws RX0 TX0 14, w ∈ wsX0_letterOf := by decide +kernel
  have hl := lv_entry ([.ref (q 0), .int (nI e0), .int (nI pp)]) (n := 3) (Nat.le_of_ble_eq_true rfl)
  rw [lg_entry_eq]
  generalize (lg_sl ([.ref (q 0), .int (nI e0), .int (nI pp)]) ++ List.replicate (3 - (lg_sl ([.ref (q 0), .int (nI e0), .int (nI pp)])).length) Slot.unset).toArray = ls at hl ⊢
  have hl : lv_has ls 3 [(0, .ref (q 0)), (1, .int (nI e0)), (2, .int (nI pp))] := hl
  generalize h0H : s.heap = H at hP ⊢
  have hS : va_S (eg_A (wX q cI cJ (nI n) mk lt tg pa an la kn fb fh nb te wt bh)) s.heap H [] := by rw [← h0H]; exact hS
  generalize ([] : List Loc) = locs at hS ⊢
  refine lv_aload_n hx hb dX0_letterOf_0 rfl (lv_at hl 0 rfl) ?_
  refine lv_iload_n hx hb dX0_letterOf_1 rfl (lv_at hl 1 rfl) ?_
  refine eg_callV (As := [.int (nI e0)]) (rest := []) hx hb hml hown hts hK hP (c_X0_checkEvent l D cI cJ q n mk lt tg pa an la kn fb fh nb te wt bh e0 hI.1 (by omega)) (cwV 1 hts gX0_letterOf_X0_checkEvent rfl rfl rfl (by decide +kernel) ⟨Nat.le_of_ble_eq_true rfl, Nat.le_of_ble_eq_true rfl⟩) (va_recv hK hP (ci := 0) (q0 := 0) rfl rfl) rfl hl.1 rfl (Nat.le_of_ble_eq_true rfl) dX0_letterOf_2 ⟨Nat.zero_le _, Nat.zero_le _⟩ ?_
  refine lv_aload_n hx hb dX0_letterOf_5 rfl (lv_at hl 0 rfl) ?_
  refine va_get (D := D) (ci := 0) (v := .ref (q 2)) (C := RX0) (T := TX0) (N := 14) hx hb hts hin hown hK hP 0 rfl rfl 2 (by decide) (hts (.fieldLink RX0 17 "EditGraph" "letters" "[I") (by decide +kernel)) (fun _ h9 => h9) rfl dX0_letterOf_6 ?_
  refine lv_aload_n hx hb dX0_letterOf_9 rfl (lv_at hl 0 rfl) ?_
  refine lv_aload_n hx hb dX0_letterOf_10 rfl (lv_at hl 0 rfl) ?_
  refine lv_iload_n hx hb dX0_letterOf_11 rfl (lv_at hl 1 rfl) ?_
  refine eg_callV (As := [.int (nI e0)]) (rest := [.ref (q 0), .ref (q 2)]) hx hb hml hown hts hK hP (c_X0_versionOfEvent l D cI cJ q n mk lt tg pa an la kn fb fh nb te wt bh e0 (by omega)) (cwV 1 hts gX0_letterOf_X0_versionOfEvent rfl rfl rfl (by decide +kernel) ⟨Nat.le_of_ble_eq_true rfl, Nat.le_of_ble_eq_true rfl⟩) (va_recv hK hP (ci := 0) (q0 := 0) rfl rfl) rfl hl.1 rfl (Nat.le_of_ble_eq_true rfl) dX0_letterOf_12 ⟨Nat.zero_le _, Nat.zero_le _⟩ ?_
  refine lv_iload_n hx hb dX0_letterOf_15 rfl (lv_at hl 2 rfl) ?_
  refine eg_callWV (As := [.long (an e0 ||| ol e0), .int (nI pp)]) (rest := [.ref (q 2)]) hx hb hml hown hts hK hP hD rfl hS (c_X0_eventInText l D cI cJ q n mk lt tg pa an la kn fb fh nb te wt bh (an e0 ||| ol e0) pp hI htr (hI.ve he) hp) (cwV 2 hts gX0_letterOf_X0_eventInText rfl rfl rfl (by decide +kernel) ⟨Nat.le_of_ble_eq_true rfl, Nat.le_of_ble_eq_true rfl⟩) (va_recv hK hP (ci := 0) (q0 := 0) rfl rfl) rfl hl.1 rfl (Nat.le_of_ble_eq_true rfl) dX0_letterOf_16 ⟨Nat.zero_le _, Nat.zero_le _⟩ (fun v9 w9 H locs hR9 hw9 hP hS => ?_)
  obtain ⟨te1, wt1, x9, hx9, rfl, rfl⟩ := hR9
  have hI1 := hI.1
  have hxn := (tx_mem (List.mem_of_getElem? hx9)).1
  refine eg_iald hx hb hK hP 2 0 rfl rfl (by omega) (by decide) dX0_letterOf_19 ?_
  exact W.iret hx hb hr (fun t9 ht9 _ => ⟨some (.int (lt x9)), (wX q cI cJ (nI n) mk lt tg pa an la kn fb fh nb te1 wt1 bh), rfl, ⟨te1, wt1, x9, hx9, rfl, rfl⟩, rfl, by rw [ht9]; exact hP, hS.F ht9⟩) hS.2.2 dX0_letterOf_20
set_option maxHeartbeats 4000000 in
set_option maxRecDepth 100000 in
theorem c_X0_letterByList (l : Launch) (D : va_G) (cI cJ : ClassId) (q : Nat → Nat) (n : Nat) (mk lt tg : Nat → Int32) (pa an la kn : Nat → Int64) (fb : Int32) (fh nb te wt bh : Nat → Int32) (a : Nat) (pp : Nat) (hI : Inv n lt tg an kn) (ha : a < 4) (hp : pp < (tx n lt tg (kn a)).length) : eg_MW D (tyL cI cJ) l yX0_letterByList wsX0_letterByList ({ frames := 4, cells := 0, slots := 0, locals := 96 }) 0 0 [.ref (q 0), .int (nI a), .int (nI pp)] (wX q cI cJ (nI n) mk lt tg pa an la kn fb fh nb te wt bh) (fun r w1 => ∃ (te' bh' : Nat → Int32) (x : Nat), (tx n lt tg (kn a))[pp]? = some x ∧ r = some (.int (lt x)) ∧ w1 = wX q cI cJ (nI n) mk lt tg pa an la kn fb fh nb te' wt bh') := by
  refine Met.ofW (cc := cX0_letterByList) (maxL := 4) (ret := (some .int)) (by decide) rfl ?_
  intro p e s m args below meth c s₁ B hml hv
  obtain ⟨rfl, hP, hK, hD0⟩ := hv
  have hx := B.exec
  have hb := B.bytes
  have hr := B.returns
  have hts := atoms_spec (ws := wsX0_letterByList) B.pre
  have hown : s.vm.findClass RX0 = some m.cls := findClass_of_methodNamed B.named
  have hlocks := B.notSynchronized
  have hD := eg_D_of hD0
  have hS : va_S (eg_A (wX q cI cJ (nI n) mk lt tg pa an la kn fb fh nb te wt bh)) s.heap s.heap [] := va_S.rf
  have hin : ∀ w ∈ u_ws RX0 TX0 14, w ∈ wsX0_letterByList := by decide +kernel
  have hl := lv_entry ([.ref (q 0), .int (nI a), .int (nI pp)]) (n := 4) (Nat.le_of_ble_eq_true rfl)
  rw [lg_entry_eq]
  generalize (lg_sl ([.ref (q 0), .int (nI a), .int (nI pp)]) ++ List.replicate (4 - (lg_sl ([.ref (q 0), .int (nI a), .int (nI pp)])).length) Slot.unset).toArray = ls at hl ⊢
  have hl : lv_has ls 4 [(0, .ref (q 0)), (1, .int (nI a)), (2, .int (nI pp))] := hl
  generalize h0H : s.heap = H at hP ⊢
  have hS : va_S (eg_A (wX q cI cJ (nI n) mk lt tg pa an la kn fb fh nb te wt bh)) s.heap H [] := by rw [← h0H]; exact hS
  generalize ([] : List Loc) = locs at hS ⊢
  refine lv_aload_n hx hb dX0_letterByList_0 rfl (lv_at hl 0 rfl) ?_
  refine lv_iload_n hx hb dX0_letterByList_1 rfl (lv_at hl 1 rfl) ?_
  refine eg_callV (As := [.int (nI a)]) (rest := []) hx hb hml hown hts hK hP (c_X0_checkAuthor l D cI cJ q n mk lt tg pa an la kn fb fh nb te wt bh a (by omega)) (cwV 1 hts gX0_letterByList_X0_checkAuthor rfl rfl rfl (by decide +kernel) ⟨Nat.le_of_ble_eq_true rfl, Nat.le_of_ble_eq_true rfl⟩) (va_recv hK hP (ci := 0) (q0 := 0) rfl rfl) rfl hl.1 rfl (Nat.le_of_ble_eq_true rfl) dX0_letterByList_2 ⟨Nat.zero_le _, Nat.zero_le _⟩ ?_
  refine lv_aload_n hx hb dX0_letterByList_5 rfl (lv_at hl 0 rfl) ?_
  refine lv_aload_n hx hb dX0_letterByList_6 rfl (lv_at hl 0 rfl) ?_
  refine va_get (D := D) (ci := 0) (v := .ref (q 7)) (C := RX0) (T := TX0) (N := 14) hx hb hts hin hown hK hP 0 rfl rfl 7 (by decide) (hts (.fieldLink RX0 33 "EditGraph" "knownSets" "[J") (by decide +kernel)) (fun _ h9 => h9) rfl dX0_letterByList_7 ?_
  refine lv_iload_n hx hb dX0_letterByList_10 rfl (lv_at hl 1 rfl) ?_
  refine eg_lald hx hb hK hP 7 1 rfl rfl (by omega) (by decide) dX0_letterByList_11 ?_
  have e9 := tx_list (v := kn a) hI
  refine eg_callWV (As := [.long (kn a)]) (rest := []) hx hb hml hown hts hK hP hD rfl hS (c_X0_findTextByList l D cI cJ q n mk lt tg pa an la kn fb fh nb te wt bh (kn a) hI.1 hI.hdl (hI.hangV (hI.vk ha))) (cwV 1 hts gX0_letterByList_X0_findTextByList rfl rfl rfl (by decide +kernel) ⟨Nat.le_of_ble_eq_true rfl, Nat.le_of_ble_eq_true rfl⟩) (va_recv hK hP (ci := 0) (q0 := 0) rfl rfl) rfl hl.1 rfl (Nat.le_of_ble_eq_true rfl) dX0_letterByList_12 ⟨Nat.zero_le _, Nat.zero_le _⟩ (fun v9 w9 H locs hR9 hw9 hP hS => ?_)
  obtain ⟨te1, bh1, rfl, rfl, hh1⟩ := hR9
  rw [e9] at hh1 ⊢
  have hT9 := tx_len hI (hI.vk ha)
  have hI1 := hI.1
  refine lv_istore_n (lv' := [(3, .int (nI ((tx n lt tg (kn a)).length))), (0, .ref (q 0)), (1, .int (nI a)), (2, .int (nI pp))]) hx hb dX0_letterByList_15 rfl hl (by decide) rfl (fun ls hl => ?_)
  refine lv_aload_n hx hb dX0_letterByList_16 rfl (lv_at hl 1 rfl) ?_
  refine lv_iload_n hx hb dX0_letterByList_17 rfl (lv_at hl 3 rfl) ?_
  refine lv_iload_n hx hb dX0_letterByList_18 rfl (lv_at hl 0 rfl) ?_
  refine eg_callV (As := [.int (nI pp), .int (nI ((tx n lt tg (kn a)).length))]) (rest := []) hx hb hml hown hts hK hP (c_X0_checkPlace l D cI cJ q n mk lt tg pa an la kn fb fh nb te1 wt bh1 pp ((tx n lt tg (kn a)).length) hp (by omega)) (cwV 2 hts gX0_letterByList_X0_checkPlace rfl rfl rfl (by decide +kernel) ⟨Nat.le_of_ble_eq_true rfl, Nat.le_of_ble_eq_true rfl⟩) (va_recv hK hP (ci := 0) (q0 := 0) rfl rfl) rfl hl.1 rfl (Nat.le_of_ble_eq_true rfl) dX0_letterByList_19 ⟨Nat.zero_le _, Nat.zero_le _⟩ ?_
  refine lv_aload_n hx hb dX0_letterByList_22 rfl (lv_at hl 1 rfl) ?_
  refine va_get (D := D) (ci := 0) (v := .ref (q 2)) (C := RX0) (T := TX0) (N := 14) hx hb hts hin hown hK hP 0 rfl rfl 2 (by decide) (hts (.fieldLink RX0 17 "EditGraph" "letters" "[I") (by decide +kernel)) (fun _ h9 => h9) rfl dX0_letterByList_23 ?_
  refine lv_aload_n hx hb dX0_letterByList_26 rfl (lv_at hl 1 rfl) ?_
  refine va_get (D := D) (ci := 0) (v := .ref (q 10)) (C := RX0) (T := TX0) (N := 14) hx hb hts hin hown hK hP 0 rfl rfl 11 (by decide) (hts (.fieldLink RX0 45 "EditGraph" "textEvents" "[I") (by decide +kernel)) (fun _ h9 => h9) rfl dX0_letterByList_27 ?_
  refine lv_iload_n hx hb dX0_letterByList_30 rfl (lv_at hl 3 rfl) ?_
  refine eg_iald hx hb hK hP 10 0 rfl rfl (by omega) (by decide) dX0_letterByList_31 ?_
  obtain ⟨x9, hx9⟩ := getq hp
  rw [hh1 _ _ hx9]
  have hxn := (tx_mem (List.mem_of_getElem? hx9)).1
  refine eg_iald hx hb hK hP 2 0 rfl rfl (by omega) (by decide) dX0_letterByList_32 ?_
  exact W.iret hx hb hr (fun t9 ht9 _ => ⟨some (.int (lt x9)), (wX q cI cJ (nI n) mk lt tg pa an la kn fb fh nb te1 wt bh1), rfl, ⟨te1, bh1, x9, hx9, rfl, rfl⟩, rfl, by rw [ht9]; exact hP, hS.F ht9⟩) hS.2.2 dX0_letterByList_33
set_option maxHeartbeats 4000000 in
set_option maxRecDepth 100000 in
theorem c_X0_lettersBy (l : Launch) (D : va_G) (cI cJ : ClassId) (q : Nat → Nat) (n : Nat) (mk lt tg : Nat → Int32) (pa an la kn : Nat → Int64) (fb : Int32) (fh nb te wt bh : Nat → Int32) (a : Nat) (b : Nat) (hI : Inv n lt tg an kn) (htr : ∃ f, Tr n fh nb f fb (lay (ins lt) tg n)) (ha : a < 4) (hb4 : b < 4) : eg_MW D (tyL cI cJ) l yX0_lettersBy wsX0_lettersBy ({ frames := 4, cells := 0, slots := 0, locals := 97 }) 0 0 [.ref (q 0), .int (nI a), .int (nI b)] (wX q cI cJ (nI n) mk lt tg pa an la kn fb fh nb te wt bh) (fun r w1 => ∃ (te' wt' : Nat → Int32), r = some (.int (nI (ct (fun j => decide (mk ((tx n lt tg (kn a)).getD j 0) = nI b)) (tx n lt tg (kn a)).length))) ∧ w1 = wX q cI cJ (nI n) mk lt tg pa an la kn fb fh nb te' wt' bh) := by
  refine Met.ofW (cc := cX0_lettersBy) (maxL := 6) (ret := (some .int)) (by decide) rfl ?_
  intro p e s m args below meth c s₁ B hml hv
  obtain ⟨rfl, hP, hK, hD0⟩ := hv
  have hx := B.exec
  have hb := B.bytes
  have hr := B.returns
  have hts := atoms_spec (ws := wsX0_lettersBy) B.pre
  have hown : s.vm.findClass RX0 = some m.cls := findClass_of_methodNamed B.named
  have hlocks := B.notSynchronized
  have hD := eg_D_of hD0
  have hS : va_S (eg_A (wX q cI cJ (nI n) mk lt tg pa an la kn fb fh nb te wt bh)) s.heap s.heap [] := va_S.rf
  have hin : ∀ w ∈ u_ws RX0 TX0 14, w ∈ wsX0_lettersBy := by decide +kernel
  have hl := lv_entry ([.ref (q 0), .int (nI a), .int (nI b)]) (n := 6) (Nat.le_of_ble_eq_true rfl)
  rw [lg_entry_eq]
  generalize (lg_sl ([.ref (q 0), .int (nI a), .int (nI b)]) ++ List.replicate (6 - (lg_sl ([.ref (q 0), .int (nI a), .int (nI b)])).length) Slot.unset).toArray = ls at hl ⊢
  have hl : lv_has ls 6 [(0, .ref (q 0)), (1, .int (nI a)), (2, .int (nI b))] := hl
  generalize h0H : s.heap = H at hP ⊢
  have hS : va_S (eg_A (wX q cI cJ (nI n) mk lt tg pa an la kn fb fh nb te wt bh)) s.heap H [] := by rw [← h0H]; exact hS
  generalize ([] : List Loc) = locs at hS ⊢
  refine lv_aload_n hx hb dX0_lettersBy_0 rfl (lv_at hl 0 rfl) ?_
  refine lv_iload_n hx hb dX0_lettersBy_1 rfl (lv_at hl 1 rfl) ?_
  refine eg_callV (As := [.int (nI a)]) (rest := []) hx hb hml hown hts hK hP (c_X0_checkAuthor l D cI cJ q n mk lt tg pa an la kn fb fh nb te wt bh a (by omega)) (cwV 1 hts gX0_lettersBy_X0_checkAuthor rfl rfl rfl (by decide +kernel) ⟨Nat.le_of_ble_eq_true rfl, Nat.le_of_ble_eq_true rfl⟩) (va_recv hK hP (ci := 0) (q0 := 0) rfl rfl) rfl hl.1 rfl (Nat.le_of_ble_eq_true rfl) dX0_lettersBy_2 ⟨Nat.zero_le _, Nat.zero_le _⟩ ?_
  refine lv_aload_n hx hb dX0_lettersBy_5 rfl (lv_at hl 0 rfl) ?_
  refine lv_iload_n hx hb dX0_lettersBy_6 rfl (lv_at hl 2 rfl) ?_
  refine eg_callV (As := [.int (nI b)]) (rest := []) hx hb hml hown hts hK hP (c_X0_checkAuthor l D cI cJ q n mk lt tg pa an la kn fb fh nb te wt bh b (by omega)) (cwV 1 hts gX0_lettersBy_X0_checkAuthor rfl rfl rfl (by decide +kernel) ⟨Nat.le_of_ble_eq_true rfl, Nat.le_of_ble_eq_true rfl⟩) (va_recv hK hP (ci := 0) (q0 := 0) rfl rfl) rfl hl.1 rfl (Nat.le_of_ble_eq_true rfl) dX0_lettersBy_7 ⟨Nat.zero_le _, Nat.zero_le _⟩ ?_
  refine lv_aload_n hx hb dX0_lettersBy_10 rfl (lv_at hl 0 rfl) ?_
  refine lv_aload_n hx hb dX0_lettersBy_11 rfl (lv_at hl 0 rfl) ?_
  refine va_get (D := D) (ci := 0) (v := .ref (q 7)) (C := RX0) (T := TX0) (N := 14) hx hb hts hin hown hK hP 0 rfl rfl 7 (by decide) (hts (.fieldLink RX0 33 "EditGraph" "knownSets" "[J") (by decide +kernel)) (fun _ h9 => h9) rfl dX0_lettersBy_12 ?_
  refine lv_iload_n hx hb dX0_lettersBy_15 rfl (lv_at hl 1 rfl) ?_
  refine eg_lald hx hb hK hP 7 1 rfl rfl (by omega) (by decide) dX0_lettersBy_16 ?_
  have e9 := tx_all hI (hI.vk ha)
  refine eg_callWV (As := [.long (kn a)]) (rest := []) hx hb hml hown hts hK hP hD rfl hS (c_X0_findText l D cI cJ q n mk lt tg pa an la kn fb fh nb te wt bh (kn a) (lay (ins lt) tg n) hI.1 hI.hdl htr (Nat.le_trans (lay_len n (lay_nodup (Nat.le_trans hI.1 (by decide)) hI.hangA)) hI.1)) (cwV 1 hts gX0_lettersBy_X0_findText rfl rfl rfl (by decide +kernel) ⟨Nat.le_of_ble_eq_true rfl, Nat.le_of_ble_eq_true rfl⟩) (va_recv hK hP (ci := 0) (q0 := 0) rfl rfl) rfl hl.1 rfl (Nat.le_of_ble_eq_true rfl) dX0_lettersBy_17 ⟨Nat.zero_le _, Nat.zero_le _⟩ (fun v9 w9 H locs hR9 hw9 hP hS => ?_)
  obtain ⟨te1, wt1, rfl, rfl, hh1⟩ := hR9
  rw [e9] at hh1 ⊢
  have hT9 := tx_len hI (hI.vk ha)
  have hI1 := hI.1
  refine lv_istore_n (lv' := [(3, .int (nI ((tx n lt tg (kn a)).length))), (0, .ref (q 0)), (1, .int (nI a)), (2, .int (nI b))]) hx hb dX0_lettersBy_20 rfl hl (by decide) rfl (fun ls hl => ?_)
  have loop : ∀ (f i : Nat) (H : Heap) (locs : List Loc) (ls : Array Slot), (tx n lt tg (kn a)).length < i + f → i ≤ (tx n lt tg (kn a)).length → va_P D vwCl (wX q cI cJ (nI n) mk lt tg pa an la kn fb fh nb te1 wt1 bh) H → va_S (eg_A (wX q cI cJ (nI n) mk lt tg pa an la kn fb fh nb te wt bh)) s.heap H locs → lv_has ls 6 [(0, .ref (q 0)), (1, .int (nI a)), (2, .int (nI b)), (3, .int (nI ((tx n lt tg (kn a)).length))), (4, .int (nI (ct (fun j => decide (mk ((tx n lt tg (kn a)).getD j 0) = nI b)) i))), (5, .int (nI i))] → W p l e (headSpec wsX0_lettersBy ({ frames := 4, cells := 0, slots := 0, locals := 97 })).room s m ([.ref (q 0), .int (nI a), .int (nI b)] : List Value).toArray below meth c H locs 0 0 (MQ below (eg_Wq D (wX q cI cJ (nI n) mk lt tg pa an la kn fb fh nb te wt bh) (fun r w1 => ∃ (te' wt' : Nat → Int32), r = some (.int (nI (ct (fun j => decide (mk ((tx n lt tg (kn a)).getD j 0) = nI b)) (tx n lt tg (kn a)).length))) ∧ w1 = wX q cI cJ (nI n) mk lt tg pa an la kn fb fh nb te' wt' bh)) ([.ref (q 0), .int (nI a), .int (nI b)] : List Value).toArray s 0 0 (eg_A (wX q cI cJ (nI n) mk lt tg pa an la kn fb fh nb te wt bh))) (F0 m 27 ls []) := by
    intro f
    induction f with
    | zero => intro i  H locs ls h1 h2 hP hS hl; omega
    | succ f ih =>
      intro i  H locs ls h1 h2 hP hS hl
      refine lv_iload hx hb dX0_lettersBy_27 (lv_at hl 5 rfl) ?_
      refine lv_iload_n hx hb dX0_lettersBy_29 rfl (lv_at hl 3 rfl) ?_
      refine eg_icmp_ge (tgt := 58) hx hb dX0_lettersBy_30 (by decide) (by omega) (by omega) (fun c30 => ?_) (fun c30 => ?_)
      · refine lv_iload hx hb dX0_lettersBy_58 (lv_at hl 4 rfl) ?_
        have ein : i = (tx n lt tg (kn a)).length := by omega
        exact W.iret hx hb hr (fun t9 ht9 _ => ⟨some (.int (nI (ct (fun j => decide (mk ((tx n lt tg (kn a)).getD j 0) = nI b)) i))), (wX q cI cJ (nI n) mk lt tg pa an la kn fb fh nb te1 wt1 bh), rfl, ⟨te1, wt1, by rw [ein], rfl⟩, rfl, by rw [ht9]; exact hP, hS.F ht9⟩) hS.2.2 dX0_lettersBy_60
      · refine lv_aload_n hx hb dX0_lettersBy_33 rfl (lv_at hl 0 rfl) ?_
        refine va_get (D := D) (ci := 0) (v := .ref (q 1)) (C := RX0) (T := TX0) (N := 14) hx hb hts hin hown hK hP 0 rfl rfl 1 (by decide) (hts (.fieldLink RX0 13 "EditGraph" "makers" "[I") (by decide +kernel)) (fun _ h9 => h9) rfl dX0_lettersBy_34 ?_
        refine lv_aload_n hx hb dX0_lettersBy_37 rfl (lv_at hl 0 rfl) ?_
        refine va_get (D := D) (ci := 0) (v := .ref (q 10)) (C := RX0) (T := TX0) (N := 14) hx hb hts hin hown hK hP 0 rfl rfl 11 (by decide) (hts (.fieldLink RX0 45 "EditGraph" "textEvents" "[I") (by decide +kernel)) (fun _ h9 => h9) rfl dX0_lettersBy_38 ?_
        refine lv_iload hx hb dX0_lettersBy_41 (lv_at hl 5 rfl) ?_
        refine eg_iald hx hb hK hP 10 0 rfl rfl (by omega) (by decide) dX0_lettersBy_43 ?_
        obtain ⟨x9, hx9⟩ := getq c30
        rw [hh1 _ _ hx9]
        have hxn := (tx_mem (List.mem_of_getElem? hx9)).1
        refine eg_iald hx hb hK hP 1 0 rfl rfl (by omega) (by decide) dX0_lettersBy_44 ?_
        refine lv_iload_n hx hb dX0_lettersBy_45 rfl (lv_at hl 2 rfl) ?_
        refine lv_icmp_ne (tgt := 52) hx hb dX0_lettersBy_46 (by decide) (fun c46 => ?_) (fun c46 => ?_)
        · refine lv_iinc (v := nI (i + 1)) (lv' := [(5, .int (nI (i + 1))), (0, .ref (q 0)), (1, .int (nI a)), (2, .int (nI b)), (3, .int (nI ((tx n lt tg (kn a)).length))), (4, .int (nI (ct (fun j => decide (mk ((tx n lt tg (kn a)).getD j 0) = nI b)) i)))]) hx hb dX0_lettersBy_52 hl (k := 5) rfl (eg_inc1 _) (by decide) rfl (fun ls hl => ?_)
          refine lv_goto (tgt := 27) hx hb dX0_lettersBy_55 (by decide) ?_
          have eA : ct (fun j => decide (mk ((tx n lt tg (kn a)).getD j 0) = nI b)) (i + 1) = ct (fun j => decide (mk ((tx n lt tg (kn a)).getD j 0) = nI b)) i := by
            have g1 : (tx n lt tg (kn a)).getD i 0 = x9 := by rw [List.getD_eq_getElem?_getD, hx9]; rfl
            show ct (fun j => decide (mk ((tx n lt tg (kn a)).getD j 0) = nI b)) i + (if decide (mk ((tx n lt tg (kn a)).getD i 0) = nI b) = true then 1 else 0) = _
            rw [g1]
            simp [c46]
          exact ih (i + 1) H locs _ (by omega) (by omega) hP hS (by rw [eA]; exact lv_sub hl [1, 2, 3, 4, 5, 0] rfl)
        · refine lv_iinc (v := nI (ct (fun j => decide (mk ((tx n lt tg (kn a)).getD j 0) = nI b)) i + 1)) (lv' := [(4, .int (nI (ct (fun j => decide (mk ((tx n lt tg (kn a)).getD j 0) = nI b)) i + 1))), (0, .ref (q 0)), (1, .int (nI a)), (2, .int (nI b)), (3, .int (nI ((tx n lt tg (kn a)).length))), (5, .int (nI i))]) hx hb dX0_lettersBy_49 hl (k := 4) rfl (eg_inc1 _) (by decide) rfl (fun ls hl => ?_)
          refine lv_iinc (v := nI (i + 1)) (lv' := [(5, .int (nI (i + 1))), (4, .int (nI (ct (fun j => decide (mk ((tx n lt tg (kn a)).getD j 0) = nI b)) i + 1))), (0, .ref (q 0)), (1, .int (nI a)), (2, .int (nI b)), (3, .int (nI ((tx n lt tg (kn a)).length)))]) hx hb dX0_lettersBy_52 hl (k := 5) rfl (eg_inc1 _) (by decide) rfl (fun ls hl => ?_)
          refine lv_goto (tgt := 27) hx hb dX0_lettersBy_55 (by decide) ?_
          have eA : ct (fun j => decide (mk ((tx n lt tg (kn a)).getD j 0) = nI b)) (i + 1) = ct (fun j => decide (mk ((tx n lt tg (kn a)).getD j 0) = nI b)) i + 1 := by
            have g1 : (tx n lt tg (kn a)).getD i 0 = x9 := by rw [List.getD_eq_getElem?_getD, hx9]; rfl
            show ct (fun j => decide (mk ((tx n lt tg (kn a)).getD j 0) = nI b)) i + (if decide (mk ((tx n lt tg (kn a)).getD i 0) = nI b) = true then 1 else 0) = _
            rw [g1]
            simp [c46]
          exact ih (i + 1) H locs _ (by omega) (by omega) hP hS (by rw [eA]; exact lv_sub hl [2, 3, 4, 5, 1, 0] rfl)
  refine lv_iconst (v := nI 0) hx hb dX0_lettersBy_21 (by decide +kernel) ?_
  refine lv_istore (lv' := [(4, .int (nI 0)), (3, .int (nI ((tx n lt tg (kn a)).length))), (0, .ref (q 0)), (1, .int (nI a)), (2, .int (nI b))]) hx hb dX0_lettersBy_22 hl (by decide) rfl (fun ls hl => ?_)
  refine lv_iconst (v := nI 0) hx hb dX0_lettersBy_24 (by decide +kernel) ?_
  refine lv_istore (lv' := [(5, .int (nI 0)), (4, .int (nI 0)), (3, .int (nI ((tx n lt tg (kn a)).length))), (0, .ref (q 0)), (1, .int (nI a)), (2, .int (nI b))]) hx hb dX0_lettersBy_25 hl (by decide) rfl (fun ls hl => ?_)
  exact loop ((tx n lt tg (kn a)).length + 1) 0 H locs _ (by omega) (by omega) hP hS (lv_sub hl [3, 4, 5, 2, 1, 0] rfl)
set_option maxHeartbeats 4000000 in
set_option maxRecDepth 100000 in
theorem c_X0_concurrent (l : Launch) (D : va_G) (cI cJ : ClassId) (q : Nat → Nat) (n : Nat) (mk lt tg : Nat → Int32) (pa an la kn : Nat → Int64) (fb : Int32) (fh nb te wt bh : Nat → Int32) (a : Nat) (hI : Inv n lt tg an kn) (ha : a < 4) : eg_MR D (tyL cI cJ) l yX0_concurrent wsX0_concurrent ({ frames := 3, cells := 0, slots := 0, locals := 62 }) [.ref (q 0), .int (nI a)] (wX q cI cJ (nI n) mk lt tg pa an la kn fb fh nb te wt bh) (some (.int (nI (cnX an la (kn a) n / 2)))) := by
  have hI1 := hI.1
  refine Met.ofW (cc := cX0_concurrent) (maxL := 6) (ret := (some .int)) (by decide) rfl ?_
  intro p e s m args below meth c s₁ B hml hv
  obtain ⟨rfl, hP, hK⟩ := hv
  have hx := B.exec
  have hb := B.bytes
  have hr := B.returns
  have hts := atoms_spec (ws := wsX0_concurrent) B.pre
  have hown : s.vm.findClass RX0 = some m.cls := findClass_of_methodNamed B.named
  have hlocks := B.notSynchronized
  have hin : ∀ w ∈ u_ws RX0 TX0 14, w ∈ wsX0_concurrent := by decide +kernel
  have hl := lv_entry ([.ref (q 0), .int (nI a)]) (n := 6) (Nat.le_of_ble_eq_true rfl)
  rw [lg_entry_eq]
  generalize (lg_sl ([.ref (q 0), .int (nI a)]) ++ List.replicate (6 - (lg_sl ([.ref (q 0), .int (nI a)])).length) Slot.unset).toArray = ls at hl ⊢
  have hl : lv_has ls 6 [(0, .ref (q 0)), (1, .int (nI a))] := hl
  have loop : ∀ (f i : Nat) (ls : Array Slot), n < i + f → i ≤ n → lv_has ls 6 [(0, .ref (q 0)), (1, .int (nI a)), (2, .long (kn a)), (4, .int (nI (cnX an la (kn a) i))), (5, .int (nI i))] → W p l e (headSpec wsX0_concurrent ({ frames := 3, cells := 0, slots := 0, locals := 62 })).room s m ([.ref (q 0), .int (nI a)] : List Value).toArray below meth c s.heap [] 0 0 (MQ below (eg_R (some (.int (nI (cnX an la (kn a) n / 2))))) ([.ref (q 0), .int (nI a)] : List Value).toArray s 0 0 (fun _ => False)) (F0 m 18 ls []) := by
    intro f
    induction f with
    | zero => intro i  ls h1 h2 hl; omega
    | succ f ih =>
      intro i  ls h1 h2 hl
      refine lv_iload hx hb dX0_concurrent_18 (lv_at hl 4 rfl) ?_
      refine lv_aload_n hx hb dX0_concurrent_20 rfl (lv_at hl 0 rfl) ?_
      refine va_get (D := D) (ci := 0) (v := .int (nI n)) (C := RX0) (T := TX0) (N := 14) hx hb hts hin hown hK hP 0 rfl rfl 0 (by decide) (hts (.fieldLink RX0 7 "EditGraph" "eventCount" "I") (by decide +kernel)) (fun _ h9 => h9) rfl dX0_concurrent_21 ?_
      refine eg_icmp_ge (tgt := 62) hx hb dX0_concurrent_24 (by decide) (by omega) (by omega) (fun c24 => ?_) (fun c24 => ?_)
      · refine lv_iload hx hb dX0_concurrent_62 (lv_at hl 3 rfl) ?_
        refine lv_iconst (v := nI 1) hx hb dX0_concurrent_64 (by decide +kernel) ?_
        refine lv_ishr hx hb dX0_concurrent_65 ?_
        exact W.iret hx hb hr (fun t9 ht9 _ => ⟨congrArg (fun z => Outcome.returned (some (Value.int z))) (by first | (rw [show n = i by omega]; exact half (by have := cnX_le an la (kn a) i; omega); done)), ht9⟩) (fun q h => nomatch h) dX0_concurrent_66
      · refine lv_lload_n hx hb dX0_concurrent_27 rfl (lv_at hl 2 rfl) ?_
        refine lv_iload hx hb dX0_concurrent_28 (lv_at hl 4 rfl) ?_
        refine eg_callS (As := [.long (kn a), .int (nI i)]) (rest := []) hx hb hml hown hts hK (c_X0_has l D cI cJ (kn a) i (by omega)) (va_cwS 2 hts gX0_concurrent_X0_has rfl rfl rfl (by decide +kernel) ⟨Nat.le_of_ble_eq_true rfl, Nat.le_of_ble_eq_true rfl⟩) rfl hl.1 rfl (Nat.le_of_ble_eq_true rfl) dX0_concurrent_30 ⟨Nat.zero_le _, Nat.zero_le _⟩ ?_
        refine eg_ifeq_b (tgt := 56) hx hb dX0_concurrent_33 (by decide) (fun c33 => ?_) (fun c33 => ?_)
        · refine lv_iinc (v := nI (i + 1)) (lv' := [(5, .int (nI (i + 1))), (0, .ref (q 0)), (1, .int (nI a)), (2, .long (kn a)), (4, .int (nI (cnX an la (kn a) i)))]) hx hb dX0_concurrent_56 hl (k := 4) rfl (eg_inc1 _) (by decide) rfl (fun ls hl => ?_)
          refine lv_goto (tgt := 18) hx hb dX0_concurrent_59 (by decide) ?_
          have eA0 : cnX an la (kn a) (i + 1) = cnX an la (kn a) i := by first | (rw [cnX, if_pos c33]; done) | (rw [cnX, if_neg (by simp [c33])]; done)
          exact ih (i + 1) _ (by omega) (by omega) (by rw [eA0]; exact lv_sub hl [1, 2, 3, 4, 0] rfl)
        · refine lv_iload hx hb dX0_concurrent_36 (lv_at hl 3 rfl) ?_
          refine lv_lload_n hx hb dX0_concurrent_38 rfl (lv_at hl 2 rfl) ?_
          refine lv_aload_n hx hb dX0_concurrent_39 rfl (lv_at hl 0 rfl) ?_
          refine lv_iload hx hb dX0_concurrent_40 (lv_at hl 4 rfl) ?_
          refine eg_callV (As := [.int (nI i)]) (rest := [.long (kn a), .int (nI (cnX an la (kn a) i))]) hx hb hml hown hts hK hP (c_X0_relatedTo l D cI cJ q n mk lt tg pa an la kn fb fh nb te wt bh i (by omega)) (cwV 1 hts gX0_concurrent_X0_relatedTo rfl rfl rfl (by decide +kernel) ⟨Nat.le_of_ble_eq_true rfl, Nat.le_of_ble_eq_true rfl⟩) (va_recv hK hP (ci := 0) (q0 := 0) rfl rfl) rfl hl.1 rfl (Nat.le_of_ble_eq_true rfl) dX0_concurrent_42 ⟨Nat.zero_le _, Nat.zero_le _⟩ ?_
          refine lv_ldc2 hx hb hown (hts (.constantLong RX0 112 (-1)) (by decide +kernel)) dX0_concurrent_45 ?_
          refine lv_lxor hx hb dX0_concurrent_48 ?_
          refine lv_land hx hb dX0_concurrent_49 ?_
          refine eg_callS (As := [.long ((kn a) &&& ((rel an la i) ^^^ (-1)))]) (rest := [.int (nI (cnX an la (kn a) i))]) hx hb hml hown hts hK (c_J13_bitCount_95d88 l D cI cJ ((kn a) &&& ((rel an la i) ^^^ (-1))) ) (va_cwS 1 hts gX0_concurrent_J13_bitCount_95d88 rfl rfl rfl (by decide +kernel) ⟨Nat.le_of_ble_eq_true rfl, Nat.le_of_ble_eq_true rfl⟩) rfl hl.1 rfl (Nat.le_of_ble_eq_true rfl) dX0_concurrent_50 ⟨Nat.zero_le _, Nat.zero_le _⟩ ?_
          refine eg_iadd hx hb dX0_concurrent_53 ?_
          refine lv_istore (lv' := [(4, .int (nI (cnX an la (kn a) i + pc64 ((kn a) &&& ((rel an la i) ^^^ (-1)))))), (0, .ref (q 0)), (1, .int (nI a)), (2, .long (kn a)), (5, .int (nI i))]) hx hb dX0_concurrent_54 hl (by decide) rfl (fun ls hl => ?_)
          refine lv_iinc (v := nI (i + 1)) (lv' := [(5, .int (nI (i + 1))), (4, .int (nI (cnX an la (kn a) i + pc64 ((kn a) &&& ((rel an la i) ^^^ (-1)))))), (0, .ref (q 0)), (1, .int (nI a)), (2, .long (kn a))]) hx hb dX0_concurrent_56 hl (k := 4) rfl (eg_inc1 _) (by decide) rfl (fun ls hl => ?_)
          refine lv_goto (tgt := 18) hx hb dX0_concurrent_59 (by decide) ?_
          have eA0 : cnX an la (kn a) (i + 1) = cnX an la (kn a) i + pc64 ((kn a) &&& ((rel an la i) ^^^ (-1))) := by first | (rw [cnX, if_pos c33]; done) | (rw [cnX, if_neg (by simp [c33])]; done)
          exact ih (i + 1) _ (by omega) (by omega) (by rw [eA0]; exact lv_sub hl [2, 3, 4, 1, 0] rfl)
  refine lv_aload_n hx hb dX0_concurrent_0 rfl (lv_at hl 0 rfl) ?_
  refine lv_iload_n hx hb dX0_concurrent_1 rfl (lv_at hl 1 rfl) ?_
  refine eg_callV (As := [.int (nI a)]) (rest := []) hx hb hml hown hts hK hP (c_X0_checkAuthor l D cI cJ q n mk lt tg pa an la kn fb fh nb te wt bh a (by omega)) (cwV 1 hts gX0_concurrent_X0_checkAuthor rfl rfl rfl (by decide +kernel) ⟨Nat.le_of_ble_eq_true rfl, Nat.le_of_ble_eq_true rfl⟩) (va_recv hK hP (ci := 0) (q0 := 0) rfl rfl) rfl hl.1 rfl (Nat.le_of_ble_eq_true rfl) dX0_concurrent_2 ⟨Nat.zero_le _, Nat.zero_le _⟩ ?_
  refine lv_aload_n hx hb dX0_concurrent_5 rfl (lv_at hl 0 rfl) ?_
  refine va_get (D := D) (ci := 0) (v := .ref (q 7)) (C := RX0) (T := TX0) (N := 14) hx hb hts hin hown hK hP 0 rfl rfl 7 (by decide) (hts (.fieldLink RX0 33 "EditGraph" "knownSets" "[J") (by decide +kernel)) (fun _ h9 => h9) rfl dX0_concurrent_6 ?_
  refine lv_iload_n hx hb dX0_concurrent_9 rfl (lv_at hl 1 rfl) ?_
  refine eg_lald hx hb hK hP 7 1 rfl rfl (by omega) (by decide) dX0_concurrent_10 ?_
  refine lv_lstore_n (lv' := [(2, .long (kn a)), (0, .ref (q 0)), (1, .int (nI a))]) hx hb dX0_concurrent_11 rfl hl (by decide) rfl (fun ls hl => ?_)
  refine lv_iconst (v := nI 0) hx hb dX0_concurrent_12 (by decide +kernel) ?_
  refine lv_istore (lv' := [(4, .int (nI 0)), (2, .long (kn a)), (0, .ref (q 0)), (1, .int (nI a))]) hx hb dX0_concurrent_13 hl (by decide) rfl (fun ls hl => ?_)
  refine lv_iconst (v := nI 0) hx hb dX0_concurrent_15 (by decide +kernel) ?_
  refine lv_istore (lv' := [(5, .int (nI 0)), (4, .int (nI 0)), (2, .long (kn a)), (0, .ref (q 0)), (1, .int (nI a))]) hx hb dX0_concurrent_16 hl (by decide) rfl (fun ls hl => ?_)
  exact loop (n + 1) 0 _ (by omega) (by omega) (lv_sub hl [3, 4, 2, 1, 0] rfl)
set_option maxHeartbeats 4000000 in
set_option maxRecDepth 100000 in
theorem c_X0_toReplay (l : Launch) (D : va_G) (cI cJ : ClassId) (q : Nat → Nat) (n : Nat) (mk lt tg : Nat → Int32) (pa an la kn : Nat → Int64) (fb : Int32) (fh nb te wt bh : Nat → Int32) (a : Nat) (hI : Inv n lt tg an kn) (ha : a < 4) : eg_MR D (tyL cI cJ) l yX0_toReplay wsX0_toReplay ({ frames := 4, cells := 0, slots := 0, locals := 87 }) [.ref (q 0), .int (nI a)] (wX q cI cJ (nI n) mk lt tg pa an la kn fb fh nb te wt bh) (some (.int (nI (pc64 (kn a &&& (tpX an (cO an la (kn a) n) n ^^^ (-1))))))) := by
  have hI1 := hI.1
  refine Met.ofW (cc := cX0_toReplay) (maxL := 9) (ret := (some .int)) (by decide) rfl ?_
  intro p e s m args below meth c s₁ B hml hv
  obtain ⟨rfl, hP, hK⟩ := hv
  have hx := B.exec
  have hb := B.bytes
  have hr := B.returns
  have hts := atoms_spec (ws := wsX0_toReplay) B.pre
  have hown : s.vm.findClass RX0 = some m.cls := findClass_of_methodNamed B.named
  have hlocks := B.notSynchronized
  have hin : ∀ w ∈ u_ws RX0 TX0 14, w ∈ wsX0_toReplay := by decide +kernel
  have hl := lv_entry ([.ref (q 0), .int (nI a)]) (n := 9) (Nat.le_of_ble_eq_true rfl)
  rw [lg_entry_eq]
  generalize (lg_sl ([.ref (q 0), .int (nI a)]) ++ List.replicate (9 - (lg_sl ([.ref (q 0), .int (nI a)])).length) Slot.unset).toArray = ls at hl ⊢
  have hl : lv_has ls 9 [(0, .ref (q 0)), (1, .int (nI a))] := hl
  have loop : ∀ (f i : Nat) (ls : Array Slot), n < i + f → i ≤ n → lv_has ls 9 [(0, .ref (q 0)), (1, .int (nI a)), (2, .long (kn a)), (4, .long (cO an la (kn a) n)), (6, .long (tpX an (cO an la (kn a) n) i)), (8, .int (nI i))] → W p l e (headSpec wsX0_toReplay ({ frames := 4, cells := 0, slots := 0, locals := 87 })).room s m ([.ref (q 0), .int (nI a)] : List Value).toArray below meth c s.heap [] 0 0 (MQ below (eg_R (some (.int (nI (pc64 (kn a &&& (tpX an (cO an la (kn a) n) n ^^^ (-1)))))))) ([.ref (q 0), .int (nI a)] : List Value).toArray s 0 0 (fun _ => False)) (F0 m 25 ls []) := by
    intro f
    induction f with
    | zero => intro i  ls h1 h2 hl; omega
    | succ f ih =>
      intro i  ls h1 h2 hl
      refine lv_iload hx hb dX0_toReplay_25 (lv_at hl 5 rfl) ?_
      refine lv_aload_n hx hb dX0_toReplay_27 rfl (lv_at hl 0 rfl) ?_
      refine va_get (D := D) (ci := 0) (v := .int (nI n)) (C := RX0) (T := TX0) (N := 14) hx hb hts hin hown hK hP 0 rfl rfl 0 (by decide) (hts (.fieldLink RX0 7 "EditGraph" "eventCount" "I") (by decide +kernel)) (fun _ h9 => h9) rfl dX0_toReplay_28 ?_
      refine eg_icmp_ge (tgt := 58) hx hb dX0_toReplay_31 (by decide) (by omega) (by omega) (fun c31 => ?_) (fun c31 => ?_)
      · refine lv_lload_n hx hb dX0_toReplay_58 rfl (lv_at hl 2 rfl) ?_
        refine lv_lload hx hb dX0_toReplay_59 (lv_at hl 4 rfl) ?_
        refine lv_ldc2 hx hb hown (hts (.constantLong RX0 112 (-1)) (by decide +kernel)) dX0_toReplay_61 ?_
        refine lv_lxor hx hb dX0_toReplay_64 ?_
        refine lv_land hx hb dX0_toReplay_65 ?_
        refine eg_callS (As := [.long ((kn a) &&& ((tpX an (cO an la (kn a) n) i) ^^^ (-1)))]) (rest := []) hx hb hml hown hts hK (c_J13_bitCount_95d88 l D cI cJ ((kn a) &&& ((tpX an (cO an la (kn a) n) i) ^^^ (-1))) ) (va_cwS 1 hts gX0_toReplay_J13_bitCount_95d88 rfl rfl rfl (by decide +kernel) ⟨Nat.le_of_ble_eq_true rfl, Nat.le_of_ble_eq_true rfl⟩) rfl hl.1 rfl (Nat.le_of_ble_eq_true rfl) dX0_toReplay_66 ⟨Nat.zero_le _, Nat.zero_le _⟩ ?_
        exact W.iret hx hb hr (fun t9 ht9 _ => ⟨congrArg (fun z => Outcome.returned (some (Value.int z))) (by first | (rw [show i = n by omega]; done)), ht9⟩) (fun q h => nomatch h) dX0_toReplay_69
      · refine lv_lload hx hb dX0_toReplay_34 (lv_at hl 3 rfl) ?_
        refine lv_iload hx hb dX0_toReplay_36 (lv_at hl 5 rfl) ?_
        refine eg_callS (As := [.long (cO an la (kn a) n), .int (nI i)]) (rest := []) hx hb hml hown hts hK (c_X0_has l D cI cJ (cO an la (kn a) n) i (by omega)) (va_cwS 2 hts gX0_toReplay_X0_has rfl rfl rfl (by decide +kernel) ⟨Nat.le_of_ble_eq_true rfl, Nat.le_of_ble_eq_true rfl⟩) rfl hl.1 rfl (Nat.le_of_ble_eq_true rfl) dX0_toReplay_38 ⟨Nat.zero_le _, Nat.zero_le _⟩ ?_
        refine eg_ifeq_b (tgt := 52) hx hb dX0_toReplay_41 (by decide) (fun c41 => ?_) (fun c41 => ?_)
        · refine lv_iinc (v := nI (i + 1)) (lv' := [(8, .int (nI (i + 1))), (0, .ref (q 0)), (1, .int (nI a)), (2, .long (kn a)), (4, .long (cO an la (kn a) n)), (6, .long (tpX an (cO an la (kn a) n) i))]) hx hb dX0_toReplay_52 hl (k := 5) rfl (eg_inc1 _) (by decide) rfl (fun ls hl => ?_)
          refine lv_goto (tgt := 25) hx hb dX0_toReplay_55 (by decide) ?_
          have eA0 : tpX an (cO an la (kn a) n) (i + 1) = tpX an (cO an la (kn a) n) i := by first | (rw [tpX, if_pos c41]; done) | (rw [tpX, if_neg (by simp [c41])]; done)
          exact ih (i + 1) _ (by omega) (by omega) (by rw [eA0]; exact lv_sub hl [1, 2, 3, 4, 5, 0] rfl)
        · refine lv_aload_n hx hb dX0_toReplay_44 rfl (lv_at hl 0 rfl) ?_
          refine lv_iload hx hb dX0_toReplay_45 (lv_at hl 5 rfl) ?_
          refine eg_callV (As := [.int (nI i)]) (rest := []) hx hb hml hown hts hK hP (c_X0_versionOfEvent l D cI cJ q n mk lt tg pa an la kn fb fh nb te wt bh i (by omega)) (cwV 1 hts gX0_toReplay_X0_versionOfEvent rfl rfl rfl (by decide +kernel) ⟨Nat.le_of_ble_eq_true rfl, Nat.le_of_ble_eq_true rfl⟩) (va_recv hK hP (ci := 0) (q0 := 0) rfl rfl) rfl hl.1 rfl (Nat.le_of_ble_eq_true rfl) dX0_toReplay_47 ⟨Nat.zero_le _, Nat.zero_le _⟩ ?_
          refine lv_lstore (lv' := [(6, .long (an i ||| ol i)), (0, .ref (q 0)), (1, .int (nI a)), (2, .long (kn a)), (4, .long (cO an la (kn a) n)), (8, .int (nI i))]) hx hb dX0_toReplay_50 hl (by decide) rfl (fun ls hl => ?_)
          refine lv_iinc (v := nI (i + 1)) (lv' := [(8, .int (nI (i + 1))), (6, .long (an i ||| ol i)), (0, .ref (q 0)), (1, .int (nI a)), (2, .long (kn a)), (4, .long (cO an la (kn a) n))]) hx hb dX0_toReplay_52 hl (k := 5) rfl (eg_inc1 _) (by decide) rfl (fun ls hl => ?_)
          refine lv_goto (tgt := 25) hx hb dX0_toReplay_55 (by decide) ?_
          have eA0 : tpX an (cO an la (kn a) n) (i + 1) = (an i ||| ol i) := by first | (rw [tpX, if_pos c41]; done) | (rw [tpX, if_neg (by simp [c41])]; done)
          exact ih (i + 1) _ (by omega) (by omega) (by rw [eA0]; exact lv_sub hl [2, 3, 4, 5, 1, 0] rfl)
  refine lv_aload_n hx hb dX0_toReplay_0 rfl (lv_at hl 0 rfl) ?_
  refine lv_iload_n hx hb dX0_toReplay_1 rfl (lv_at hl 1 rfl) ?_
  refine eg_callV (As := [.int (nI a)]) (rest := []) hx hb hml hown hts hK hP (c_X0_checkAuthor l D cI cJ q n mk lt tg pa an la kn fb fh nb te wt bh a (by omega)) (cwV 1 hts gX0_toReplay_X0_checkAuthor rfl rfl rfl (by decide +kernel) ⟨Nat.le_of_ble_eq_true rfl, Nat.le_of_ble_eq_true rfl⟩) (va_recv hK hP (ci := 0) (q0 := 0) rfl rfl) rfl hl.1 rfl (Nat.le_of_ble_eq_true rfl) dX0_toReplay_2 ⟨Nat.zero_le _, Nat.zero_le _⟩ ?_
  refine lv_aload_n hx hb dX0_toReplay_5 rfl (lv_at hl 0 rfl) ?_
  refine va_get (D := D) (ci := 0) (v := .ref (q 7)) (C := RX0) (T := TX0) (N := 14) hx hb hts hin hown hK hP 0 rfl rfl 7 (by decide) (hts (.fieldLink RX0 33 "EditGraph" "knownSets" "[J") (by decide +kernel)) (fun _ h9 => h9) rfl dX0_toReplay_6 ?_
  refine lv_iload_n hx hb dX0_toReplay_9 rfl (lv_at hl 1 rfl) ?_
  refine eg_lald hx hb hK hP 7 1 rfl rfl (by omega) (by decide) dX0_toReplay_10 ?_
  refine lv_lstore_n (lv' := [(2, .long (kn a)), (0, .ref (q 0)), (1, .int (nI a))]) hx hb dX0_toReplay_11 rfl hl (by decide) rfl (fun ls hl => ?_)
  refine lv_aload_n hx hb dX0_toReplay_12 rfl (lv_at hl 1 rfl) ?_
  refine lv_lload_n hx hb dX0_toReplay_13 rfl (lv_at hl 0 rfl) ?_
  refine eg_callV (As := [.long (kn a)]) (rest := []) hx hb hml hown hts hK hP (c_X0_criticalOf l D cI cJ q n mk lt tg pa an la kn fb fh nb te wt bh (kn a) hI.1) (cwV 1 hts gX0_toReplay_X0_criticalOf rfl rfl rfl (by decide +kernel) ⟨Nat.le_of_ble_eq_true rfl, Nat.le_of_ble_eq_true rfl⟩) (va_recv hK hP (ci := 0) (q0 := 0) rfl rfl) rfl hl.1 rfl (Nat.le_of_ble_eq_true rfl) dX0_toReplay_14 ⟨Nat.zero_le _, Nat.zero_le _⟩ ?_
  refine lv_lstore (lv' := [(4, .long (cO an la (kn a) n)), (2, .long (kn a)), (0, .ref (q 0)), (1, .int (nI a))]) hx hb dX0_toReplay_17 hl (by decide) rfl (fun ls hl => ?_)
  refine lv_lconst (v := 0) hx hb dX0_toReplay_19 (by decide) ?_
  refine lv_lstore (lv' := [(6, .long 0), (4, .long (cO an la (kn a) n)), (2, .long (kn a)), (0, .ref (q 0)), (1, .int (nI a))]) hx hb dX0_toReplay_20 hl (by decide) rfl (fun ls hl => ?_)
  refine lv_iconst (v := nI 0) hx hb dX0_toReplay_22 (by decide +kernel) ?_
  refine lv_istore (lv' := [(8, .int (nI 0)), (6, .long 0), (4, .long (cO an la (kn a) n)), (2, .long (kn a)), (0, .ref (q 0)), (1, .int (nI a))]) hx hb dX0_toReplay_23 hl (by decide) rfl (fun ls hl => ?_)
  exact loop (n + 1) 0 _ (by omega) (by omega) (lv_sub hl [4, 5, 3, 2, 1, 0] rfl)
set_option maxHeartbeats 4000000 in
set_option maxRecDepth 100000 in
theorem c_X0_runs (l : Launch) (D : va_G) (cI cJ : ClassId) (q : Nat → Nat) (n : Nat) (mk lt tg : Nat → Int32) (pa an la kn : Nat → Int64) (fb : Int32) (fh nb te wt bh : Nat → Int32) (a : Nat) (hI : Inv n lt tg an kn) (ha : a < 4) : eg_MR D (tyL cI cJ) l yX0_runs wsX0_runs ({ frames := 2, cells := 0, slots := 0, locals := 43 }) [.ref (q 0), .int (nI a)] (wX q cI cJ (nI n) mk lt tg pa an la kn fb fh nb te wt bh) (some (.int (nI (rnX n mk lt tg pa (kn a) n)))) := by
  have hI1 := hI.1
  refine Met.ofW (cc := cX0_runs) (maxL := 6) (ret := (some .int)) (by decide) rfl ?_
  intro p e s m args below meth c s₁ B hml hv
  obtain ⟨rfl, hP, hK⟩ := hv
  have hx := B.exec
  have hb := B.bytes
  have hr := B.returns
  have hts := atoms_spec (ws := wsX0_runs) B.pre
  have hown : s.vm.findClass RX0 = some m.cls := findClass_of_methodNamed B.named
  have hlocks := B.notSynchronized
  have hin : ∀ w ∈ u_ws RX0 TX0 14, w ∈ wsX0_runs := by decide +kernel
  have hl := lv_entry ([.ref (q 0), .int (nI a)]) (n := 6) (Nat.le_of_ble_eq_true rfl)
  rw [lg_entry_eq]
  generalize (lg_sl ([.ref (q 0), .int (nI a)]) ++ List.replicate (6 - (lg_sl ([.ref (q 0), .int (nI a)])).length) Slot.unset).toArray = ls at hl ⊢
  have hl : lv_has ls 6 [(0, .ref (q 0)), (1, .int (nI a))] := hl
  have loop : ∀ (f i : Nat) (ls : Array Slot), n < i + f → i ≤ n → lv_has ls 6 [(0, .ref (q 0)), (1, .int (nI a)), (2, .long (kn a)), (4, .int (nI (rnX n mk lt tg pa (kn a) i))), (5, .int (nI i))] → W p l e (headSpec wsX0_runs ({ frames := 2, cells := 0, slots := 0, locals := 43 })).room s m ([.ref (q 0), .int (nI a)] : List Value).toArray below meth c s.heap [] 0 0 (MQ below (eg_R (some (.int (nI (rnX n mk lt tg pa (kn a) n))))) ([.ref (q 0), .int (nI a)] : List Value).toArray s 0 0 (fun _ => False)) (F0 m 18 ls []) := by
    intro f
    induction f with
    | zero => intro i  ls h1 h2 hl; omega
    | succ f ih =>
      intro i  ls h1 h2 hl
      refine lv_iload hx hb dX0_runs_18 (lv_at hl 4 rfl) ?_
      refine lv_aload_n hx hb dX0_runs_20 rfl (lv_at hl 0 rfl) ?_
      refine va_get (D := D) (ci := 0) (v := .int (nI n)) (C := RX0) (T := TX0) (N := 14) hx hb hts hin hown hK hP 0 rfl rfl 0 (by decide) (hts (.fieldLink RX0 7 "EditGraph" "eventCount" "I") (by decide +kernel)) (fun _ h9 => h9) rfl dX0_runs_21 ?_
      refine eg_icmp_ge (tgt := 54) hx hb dX0_runs_24 (by decide) (by omega) (by omega) (fun c24 => ?_) (fun c24 => ?_)
      · refine lv_iload hx hb dX0_runs_54 (lv_at hl 3 rfl) ?_
        exact W.iret hx hb hr (fun t9 ht9 _ => ⟨congrArg (fun z => Outcome.returned (some (Value.int z))) (by first | (rw [show i = n by omega]; done)), ht9⟩) (fun q h => nomatch h) dX0_runs_56
      · refine lv_lload_n hx hb dX0_runs_27 rfl (lv_at hl 2 rfl) ?_
        refine lv_iload hx hb dX0_runs_28 (lv_at hl 4 rfl) ?_
        refine eg_callS (As := [.long (kn a), .int (nI i)]) (rest := []) hx hb hml hown hts hK (c_X0_has l D cI cJ (kn a) i (by omega)) (va_cwS 2 hts gX0_runs_X0_has rfl rfl rfl (by decide +kernel) ⟨Nat.le_of_ble_eq_true rfl, Nat.le_of_ble_eq_true rfl⟩) rfl hl.1 rfl (Nat.le_of_ble_eq_true rfl) dX0_runs_30 ⟨Nat.zero_le _, Nat.zero_le _⟩ ?_
        refine eg_ifeq_b (tgt := 48) hx hb dX0_runs_33 (by decide) (fun c33 => ?_) (fun c33 => ?_)
        · refine lv_iinc (v := nI (i + 1)) (lv' := [(5, .int (nI (i + 1))), (0, .ref (q 0)), (1, .int (nI a)), (2, .long (kn a)), (4, .int (nI (rnX n mk lt tg pa (kn a) i)))]) hx hb dX0_runs_48 hl (k := 4) rfl (eg_inc1 _) (by decide) rfl (fun ls hl => ?_)
          refine lv_goto (tgt := 18) hx hb dX0_runs_51 (by decide) ?_
          have eA0 : rnX n mk lt tg pa (kn a) (i + 1) = rnX n mk lt tg pa (kn a) i := by first | (rw [rnX, if_pos ⟨c33, c42⟩]; done) | (rw [rnX, if_neg (fun h => Bool.noConfusion (c33.symm.trans h.1))]; done) | (rw [rnX, if_neg (fun h => Bool.noConfusion (c42.symm.trans h.2))]; done)
          exact ih (i + 1) _ (by omega) (by omega) (by rw [eA0]; exact lv_sub hl [1, 2, 3, 4, 0] rfl)
        · refine lv_aload_n hx hb dX0_runs_36 rfl (lv_at hl 0 rfl) ?_
          refine lv_iload hx hb dX0_runs_37 (lv_at hl 4 rfl) ?_
          refine eg_callV (As := [.int (nI i)]) (rest := []) hx hb hml hown hts hK hP (c_X0_continuesRun l D cI cJ q n mk lt tg pa an la kn fb fh nb te wt bh i hI.1 (by omega)) (cwV 1 hts gX0_runs_X0_continuesRun rfl rfl rfl (by decide +kernel) ⟨Nat.le_of_ble_eq_true rfl, Nat.le_of_ble_eq_true rfl⟩) (va_recv hK hP (ci := 0) (q0 := 0) rfl rfl) rfl hl.1 rfl (Nat.le_of_ble_eq_true rfl) dX0_runs_39 ⟨Nat.zero_le _, Nat.zero_le _⟩ ?_
          refine eg_ifne_b (tgt := 48) hx hb dX0_runs_42 (by decide) (fun c42 => ?_) (fun c42 => ?_)
          · refine lv_iinc (v := nI (i + 1)) (lv' := [(5, .int (nI (i + 1))), (0, .ref (q 0)), (1, .int (nI a)), (2, .long (kn a)), (4, .int (nI (rnX n mk lt tg pa (kn a) i)))]) hx hb dX0_runs_48 hl (k := 4) rfl (eg_inc1 _) (by decide) rfl (fun ls hl => ?_)
            refine lv_goto (tgt := 18) hx hb dX0_runs_51 (by decide) ?_
            have eA0 : rnX n mk lt tg pa (kn a) (i + 1) = rnX n mk lt tg pa (kn a) i := by first | (rw [rnX, if_pos ⟨c33, c42⟩]; done) | (rw [rnX, if_neg (fun h => Bool.noConfusion (c33.symm.trans h.1))]; done) | (rw [rnX, if_neg (fun h => Bool.noConfusion (c42.symm.trans h.2))]; done)
            exact ih (i + 1) _ (by omega) (by omega) (by rw [eA0]; exact lv_sub hl [1, 2, 3, 4, 0] rfl)
          · refine lv_iinc (v := nI (rnX n mk lt tg pa (kn a) i + 1)) (lv' := [(4, .int (nI (rnX n mk lt tg pa (kn a) i + 1))), (0, .ref (q 0)), (1, .int (nI a)), (2, .long (kn a)), (5, .int (nI i))]) hx hb dX0_runs_45 hl (k := 3) rfl (eg_inc1 _) (by decide) rfl (fun ls hl => ?_)
            refine lv_iinc (v := nI (i + 1)) (lv' := [(5, .int (nI (i + 1))), (4, .int (nI (rnX n mk lt tg pa (kn a) i + 1))), (0, .ref (q 0)), (1, .int (nI a)), (2, .long (kn a))]) hx hb dX0_runs_48 hl (k := 4) rfl (eg_inc1 _) (by decide) rfl (fun ls hl => ?_)
            refine lv_goto (tgt := 18) hx hb dX0_runs_51 (by decide) ?_
            have eA0 : rnX n mk lt tg pa (kn a) (i + 1) = rnX n mk lt tg pa (kn a) i + 1 := by first | (rw [rnX, if_pos ⟨c33, c42⟩]; done) | (rw [rnX, if_neg (fun h => Bool.noConfusion (c33.symm.trans h.1))]; done) | (rw [rnX, if_neg (fun h => Bool.noConfusion (c42.symm.trans h.2))]; done)
            exact ih (i + 1) _ (by omega) (by omega) (by rw [eA0]; exact lv_sub hl [2, 3, 4, 1, 0] rfl)
  refine lv_aload_n hx hb dX0_runs_0 rfl (lv_at hl 0 rfl) ?_
  refine lv_iload_n hx hb dX0_runs_1 rfl (lv_at hl 1 rfl) ?_
  refine eg_callV (As := [.int (nI a)]) (rest := []) hx hb hml hown hts hK hP (c_X0_checkAuthor l D cI cJ q n mk lt tg pa an la kn fb fh nb te wt bh a (by omega)) (cwV 1 hts gX0_runs_X0_checkAuthor rfl rfl rfl (by decide +kernel) ⟨Nat.le_of_ble_eq_true rfl, Nat.le_of_ble_eq_true rfl⟩) (va_recv hK hP (ci := 0) (q0 := 0) rfl rfl) rfl hl.1 rfl (Nat.le_of_ble_eq_true rfl) dX0_runs_2 ⟨Nat.zero_le _, Nat.zero_le _⟩ ?_
  refine lv_aload_n hx hb dX0_runs_5 rfl (lv_at hl 0 rfl) ?_
  refine va_get (D := D) (ci := 0) (v := .ref (q 7)) (C := RX0) (T := TX0) (N := 14) hx hb hts hin hown hK hP 0 rfl rfl 7 (by decide) (hts (.fieldLink RX0 33 "EditGraph" "knownSets" "[J") (by decide +kernel)) (fun _ h9 => h9) rfl dX0_runs_6 ?_
  refine lv_iload_n hx hb dX0_runs_9 rfl (lv_at hl 1 rfl) ?_
  refine eg_lald hx hb hK hP 7 1 rfl rfl (by omega) (by decide) dX0_runs_10 ?_
  refine lv_lstore_n (lv' := [(2, .long (kn a)), (0, .ref (q 0)), (1, .int (nI a))]) hx hb dX0_runs_11 rfl hl (by decide) rfl (fun ls hl => ?_)
  refine lv_iconst (v := nI 0) hx hb dX0_runs_12 (by decide +kernel) ?_
  refine lv_istore (lv' := [(4, .int (nI 0)), (2, .long (kn a)), (0, .ref (q 0)), (1, .int (nI a))]) hx hb dX0_runs_13 hl (by decide) rfl (fun ls hl => ?_)
  refine lv_iconst (v := nI 0) hx hb dX0_runs_15 (by decide +kernel) ?_
  refine lv_istore (lv' := [(5, .int (nI 0)), (4, .int (nI 0)), (2, .long (kn a)), (0, .ref (q 0)), (1, .int (nI a))]) hx hb dX0_runs_16 hl (by decide) rfl (fun ls hl => ?_)
  exact loop (n + 1) 0 _ (by omega) (by omega) (lv_sub hl [3, 4, 2, 1, 0] rfl)
